def v_X6_stripsTelling_17_0 (knd : Nat → Int32) (sec : Nat → Int32) (std : Nat → Int32) (person : Int32) (i : Nat) (x4_2 : Int32) : Int32 := if (f_X6_tellsNow knd sec std person (nI i)) = (-1) then x4_2 else (x4_2 ||| (1 <<< ((nI i) &&& 31)))
def nx_X6_stripsTelling_4 (knd : Nat → Int32) (sec : Nat → Int32) (std : Nat → Int32) (person : Int32) (i : Nat) (x4_2 : Int32) : Int32 := (v_X6_stripsTelling_17_0 knd sec std person i x4_2)
def x_X6_stripsTelling_4 (knd : Nat → Int32) (sec : Nat → Int32) (std : Nat → Int32) (person : Int32) : Int32 := lp (fun iz z => nx_X6_stripsTelling_4 knd sec std person iz z) 0 6
def f_X6_stripsTelling (knd : Nat → Int32) (sec : Nat → Int32) (std : Nat → Int32) (person : Int32) : Int32 := (x_X6_stripsTelling_4 knd sec std person)
abbrev rm_X6_stripsTelling : Room := { frames := 4, cells := 0, slots := 0, locals := 87 }
set_option maxRecDepth 100000 in
theorem cut_c_c (cI : ClassId) (q : Nat → Nat) (lat : Int32) (und : Int32) (kpl : Int32) (len : Int32) (ncl : Int32) (spe : Int32) (sru : Int32) (sbe : Int32) (sen : Int32) (lets : Nat → Int32) (wrds : Nat → Int32) (nums : Nat → Int32) (tb : Int32) (tp : Int32) (tr : Int32) (knd : Nat → Int32) (sec : Nat → Int32) (brd : Nat → Int32) (rms : Nat → Int32) (std : Nat → Int32) (sn : Int32) (ss : Nat → Int32) (sb : Nat → Int32) (sp : Nat → Int32) (past : Nat → Int32) (kept : Nat → Int32) (n_lat : Int32) (n_und : Int32) (n_kpl : Int32) (n_len : Int32) (n_ncl : Int32) (n_spe : Int32) (n_sru : Int32) (n_sbe : Int32) (n_sen : Int32) (n_lets : Nat → Int32) (n_wrds : Nat → Int32) (n_nums : Nat → Int32) (n_tb : Int32) (n_tp : Int32) (n_tr : Int32) (n_knd : Nat → Int32) (n_sec : Nat → Int32) (n_brd : Nat → Int32) (n_rms : Nat → Int32) (n_std : Nat → Int32) (n_sn : Int32) (n_ss : Nat → Int32) (n_sb : Nat → Int32) (n_sp : Nat → Int32) (n_past : Nat → Int32) (n_kept : Nat → Int32) : kCut (wC cI q lat und kpl len ncl spe sru sbe sen lets wrds nums tb tp tr knd sec brd rms std sn ss sb sp past kept) (wC cI q lat und kpl len ncl spe sru sbe sen lets wrds nums tb tp tr knd sec brd rms std sn ss sb sp past kept) (wC cI q n_lat n_und n_kpl n_len n_ncl n_spe n_sru n_sbe n_sen n_lets n_wrds n_nums n_tb n_tp n_tr n_knd n_sec n_brd n_rms n_std n_sn n_ss n_sb n_sp n_past n_kept) (wC cI q n_lat n_und n_kpl n_len n_ncl n_spe n_sru n_sbe n_sen n_lets n_wrds n_nums n_tb n_tp n_tr n_knd n_sec n_brd n_rms n_std n_sn n_ss n_sb n_sp n_past n_kept) [] [0, 1, 2, 3, 4, 5, 6, 7, 8, 9, 10, 11, 12, 13, 14, 15, 16, 17, 18, 19, 20, 21, 22, 23, 24, 25, 26, 27, 28, 29, 30, 31, 32] [] [0, 1, 2, 3, 4, 5, 6, 7, 8, 9, 10, 11, 12, 13, 14, 15, 16, 17, 18, 19, 20, 21, 22, 23, 24, 25, 26, 27, 28, 29, 30, 31, 32] [q 0, q 1, q 2, q 3, q 4, q 5, q 6, q 7, q 8, q 9, q 10, q 11, q 12, q 13, q 14, q 15, q 16, q 17, q 18, q 19, q 20, q 21, q 22, q 23, q 24, q 25, q 26, q 27, q 28, q 29, q 30, q 31, q 32] ∧ kNd [0, 1, 2, 3, 4, 5, 6, 7, 8, 9, 10, 11, 12, 13, 14, 15, 16, 17, 18, 19, 20, 21, 22, 23, 24, 25, 26, 27, 28, 29, 30, 31, 32] [] [0, 1, 2, 3, 4, 5, 6, 7, 8, 9, 10, 11, 12, 13, 14, 15, 16, 17, 18, 19, 20, 21, 22, 23, 24, 25, 26, 27, 28, 29, 30, 31, 32] = true := ⟨⟨rfl, rfl, ⟨rfl, rfl⟩, rfl⟩, by decide +kernel⟩
set_option maxRecDepth 100000 in
set_option maxHeartbeats 4000000 in
theorem k_X6_stripsTelling (l : Launch) (D : va_G) (cI cZ : ClassId) (adK adV : Nat → Nat) (q : Nat → Nat) (lat : Int32) (und : Int32) (kpl : Int32) (len : Int32) (ncl : Int32) (spe : Int32) (sru : Int32) (sbe : Int32) (sen : Int32) (lets : Nat → Int32) (wrds : Nat → Int32) (nums : Nat → Int32) (tb : Int32) (tp : Int32) (tr : Int32) (knd : Nat → Int32) (sec : Nat → Int32) (brd : Nat → Int32) (rms : Nat → Int32) (std : Nat → Int32) (sn : Int32) (ss : Nat → Int32) (sb : Nat → Int32) (sp : Nat → Int32) (past : Nat → Int32) (kept : Nat → Int32) (person : Int32) : CI l D (kTy cI cZ) (kG adK adV) yX6_stripsTelling (.code yX6_stripsTelling cX6_stripsTelling 4 (some .int) :: wsL_law) rm_X6_stripsTelling [.ref (q 0), .int person] (wC cI q lat und kpl len ncl spe sru sbe sen lets wrds nums tb tp tr knd sec brd rms std sn ss sb sp past kept) (wC cI q lat und kpl len ncl spe sru sbe sen lets wrds nums tb tp tr knd sec brd rms std sn ss sb sp past kept) (f_X6_stripsTelling knd sec std person) := by
  refine CI.of (cc := cX6_stripsTelling) (maxL := 4) (ty := .int) (by decide) rfl (Nat.le_of_ble_eq_true rfl) rfl ?_
  intro p e s m args below meth c A Q ls hx hb hml hts0 hown hA hP hK hD hE hl hret
  have hts : ∀ w ∈ wsL_law, w.before args s = true := fun w h => hts0 w (List.mem_cons_of_mem _ h)
  clear hts0
  have hown : s.vm.findClass RX6 = some m.cls := hown
  have hl : lv_has ls 4 [(0, .ref (q 0)), (1, .int person)] := hl
  have hS : va_S A s.heap s.heap [] := va_S.rf
  revert hP hS
  suffices hgo : ∀ (H : Heap) (locs : List Loc), va_P D vwCl (wC cI q lat und kpl len ncl spe sru sbe sen lets wrds nums tb tp tr knd sec brd rms std sn ss sb sp past kept) H → va_S A s.heap H locs → W p l e rm_X6_stripsTelling s m args below meth c H locs 0 0 Q (F0 m 0 ls []) from fun a b => hgo _ _ a b
  intro H locs hP hS
  refine lv_iconst (v := 0) hx hb dX6_stripsTelling_0 (by decide) ?_
  refine lv_istore_n (lv' := [(2, .int 0), (0, .ref (q 0)), (1, .int person)]) hx hb dX6_stripsTelling_1 rfl hl (by decide) rfl (fun ls hl => ?_)
  refine lv_iconst (v := 0) hx hb dX6_stripsTelling_2 (by decide) ?_
  refine lv_istore_n (lv' := [(3, .int 0), (2, .int 0), (0, .ref (q 0)), (1, .int person)]) hx hb dX6_stripsTelling_3 rfl hl (by decide) rfl (fun ls hl => ?_)
  have lp4 : ∀ (k4 i : Nat) (x4_2 : Int32), i + k4 = 6 → x4_2 = lp (fun iz z => nx_X6_stripsTelling_4 knd sec std person iz z) 0 i → ∀ (H : Heap) (locs : List Loc) (ls : Array Slot), va_P D vwCl (wC cI q lat und kpl len ncl spe sru sbe sen lets wrds nums tb tp tr knd sec brd rms std sn ss sb sp past kept) H → va_D A (wC cI q lat und kpl len ncl spe sru sbe sen lets wrds nums tb tp tr knd sec brd rms std sn ss sb sp past kept) → va_S A s.heap H locs → lv_has ls 4 [(0, .ref (q 0)), (1, .int person), (2, .int x4_2), (3, .int (nI i))] → W p l e rm_X6_stripsTelling s m args below meth c H locs 0 0 Q (F0 m 4 ls []) := by
    intro k4
    induction k4 with
    | zero =>
      intro i x4_2 hi4 ea4 H locs ls hP hD hS hl
      have hi4 : 6 = i := by omega
      subst hi4
      have ea4 : x4_2 = (x_X6_stripsTelling_4 knd sec std person) := ea4
      subst ea4
      refine lv_iload_n hx hb dX6_stripsTelling_4 rfl (lv_at hl 3 rfl) ?_
      refine lv_bipush (v := 6) hx hb dX6_stripsTelling_5 (by decide) ?_
      refine lv_icmp_ge (tgt := 32) hx hb dX6_stripsTelling_7 (by decide) (fun _ => ?_) (fun c_7 => absurd (nI_le (Nat.le_refl _) (by decide)) c_7)
      refine lv_iload_n hx hb dX6_stripsTelling_32 rfl (lv_at hl 2 rfl) ?_
      have hf : (f_X6_stripsTelling knd sec std person) = (x_X6_stripsTelling_4 knd sec std person) := rfl
      rw [hf] at hret
      exact hret _ _ _ _ hP hS dX6_stripsTelling_33
    | succ k4 ih4 =>
      intro i x4_2 hi4 ea4 H locs ls hP hD hS hl
      have hlt4 : i < 6 := by omega
      refine lv_iload_n hx hb dX6_stripsTelling_4 rfl (lv_at hl 3 rfl) ?_
      refine lv_bipush (v := 6) hx hb dX6_stripsTelling_5 (by decide) ?_
      refine lv_icmp_ge (tgt := 32) hx hb dX6_stripsTelling_7 (by decide) (fun c_7 => absurd c_7 (nI_ge hlt4 (by decide))) (fun _ => ?_)
      refine lv_aload_n hx hb dX6_stripsTelling_10 rfl (lv_at hl 0 rfl) ?_
      refine lv_iload_n hx hb dX6_stripsTelling_11 rfl (lv_at hl 1 rfl) ?_
      refine lv_iload_n hx hb dX6_stripsTelling_12 rfl (lv_at hl 3 rfl) ?_
      refine kvi (As := [.int person, .int (nI i)]) (rest := []) (q0 := 0) (ci := 6) ⟨hx, hb, hml, hown, hts⟩ hP hK hD hS hA hE (k_X6_tellsNow l D cI cZ adK adV q lat und kpl len ncl spe sru sbe sen lets wrds nums tb tp tr knd sec brd rms std sn ss sb sp past kept person (nI i)) (kcv hts kM_X6_tellsNow (kin_22 _ (List.mem_of_getElem? (i := 3) rfl)) ⟨rfl, rfl⟩ ⟨Nat.le_of_ble_eq_true rfl, Nat.le_of_ble_eq_true rfl⟩) kBl_G kOk_G (wC cI q lat und kpl len ncl spe sru sbe sen lets wrds nums tb tp tr knd sec brd rms std sn ss sb sp past kept) (cut_c_c cI q lat und kpl len ncl spe sru sbe sen lets wrds nums tb tp tr knd sec brd rms std sn ss sb sp past kept lat und kpl len ncl spe sru sbe sen lets wrds nums tb tp tr knd sec brd rms std sn ss sb sp past kept).1 (cut_c_c cI q lat und kpl len ncl spe sru sbe sen lets wrds nums tb tp tr knd sec brd rms std sn ss sb sp past kept lat und kpl len ncl spe sru sbe sen lets wrds nums tb tp tr knd sec brd rms std sn ss sb sp past kept).2 rfl rfl rfl rfl hl.1 rfl (Nat.le_of_ble_eq_true rfl) dX6_stripsTelling_13 (fun H locs hP hD hS => ?_)
      refine lv_iconst (v := (-1)) hx hb dX6_stripsTelling_16 (by decide) ?_
      have J17 : ∀ (H : Heap) (locs : List Loc) (ls : Array Slot), va_P D vwCl (wC cI q lat und kpl len ncl spe sru sbe sen lets wrds nums tb tp tr knd sec brd rms std sn ss sb sp past kept) H → va_D A (wC cI q lat und kpl len ncl spe sru sbe sen lets wrds nums tb tp tr knd sec brd rms std sn ss sb sp past kept) → va_S A s.heap H locs → lv_has ls 4 [(0, .ref (q 0)), (1, .int person), (2, .int (v_X6_stripsTelling_17_0 knd sec std person i x4_2)), (3, .int (nI i))] → W p l e rm_X6_stripsTelling s m args below meth c H locs 0 0 Q (F0 m 26 ls []) := by
        intro H locs ls hP hD hS hl
        refine lv_iinc (v := (nI (i + 1))) (lv' := [(3, .int (nI (i + 1))), (0, .ref (q 0)), (1, .int person), (2, .int (v_X6_stripsTelling_17_0 knd sec std person i x4_2))]) hx hb dX6_stripsTelling_26 hl (k := 3) rfl (nI_1 i) (by decide) rfl (fun ls hl => ?_)
        refine lv_goto (tgt := 4) hx hb dX6_stripsTelling_29 (by decide) ?_
        have hb4 : nx_X6_stripsTelling_4 knd sec std person i x4_2 = (v_X6_stripsTelling_17_0 knd sec std person i x4_2) := rfl
        have hs4 : (lp (fun iz z => nx_X6_stripsTelling_4 knd sec std person iz z) 0 (i + 1) : Int32) = nx_X6_stripsTelling_4 knd sec std person i (lp (fun iz z => nx_X6_stripsTelling_4 knd sec std person iz z) 0 i : Int32) := lp_succ _ _ _
        rw [← ea4] at hs4
        exact ih4 (i + 1) (v_X6_stripsTelling_17_0 knd sec std person i x4_2) (by omega) (hb4.symm.trans hs4.symm) _ _ _ hP hD hS (lv_sub hl [1, 2, 3, 0] rfl)
      refine lv_icmp_eq (tgt := 26) hx hb dX6_stripsTelling_17 (by decide) (fun c_17 => ?_) (fun c_17 => ?_)
      · skip
        rw [show (v_X6_stripsTelling_17_0 knd sec std person i x4_2) = x4_2 from (if_pos c_17)] at J17
        exact J17 _ _ _ hP hD hS (lv_sub hl [0, 1, 2, 3] rfl)
      · skip
        refine lv_iload_n hx hb dX6_stripsTelling_20 rfl (lv_at hl 2 rfl) ?_
        refine lv_iconst (v := 1) hx hb dX6_stripsTelling_21 (by decide) ?_
        refine lv_iload_n hx hb dX6_stripsTelling_22 rfl (lv_at hl 3 rfl) ?_
        refine lv_ishl hx hb dX6_stripsTelling_23 ?_
        refine lv_ior hx hb dX6_stripsTelling_24 ?_
        refine lv_istore_n (lv' := [(2, .int (x4_2 ||| (1 <<< ((nI i) &&& 31)))), (0, .ref (q 0)), (1, .int person), (3, .int (nI i))]) hx hb dX6_stripsTelling_25 rfl hl (by decide) rfl (fun ls hl => ?_)
        rw [show (v_X6_stripsTelling_17_0 knd sec std person i x4_2) = (x4_2 ||| (1 <<< ((nI i) &&& 31))) from (if_neg c_17)] at J17
        exact J17 _ _ _ hP hD hS (lv_sub hl [1, 2, 0, 3] rfl)
  exact lp4 6 0 0 (Nat.zero_add _) (lp_zero _ _).symm _ _ _ hP hD hS (lv_sub hl [2, 3, 1, 0] rfl)
