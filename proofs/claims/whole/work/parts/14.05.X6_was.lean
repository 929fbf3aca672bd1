def v_X6_was_27_0 (knd : Nat → Int32) (sec : Nat → Int32) (sn : Int32) (ss : Nat → Int32) (sb : Nat → Int32) (sp : Nat → Int32) (i : Nat) (x4_1 : Int32) : Int32 := if (f_X3_allTrueOf sn ss sb sp knd sec (nI i)) = 0 then x4_1 else (x4_1 ||| (1 <<< ((nI i) &&& 31)))
def nx_X6_was_4 (knd : Nat → Int32) (sec : Nat → Int32) (sn : Int32) (ss : Nat → Int32) (sb : Nat → Int32) (sp : Nat → Int32) (i : Nat) (x4_1 : Int32) : Int32 := (v_X6_was_27_0 knd sec sn ss sb sp i x4_1)
def x_X6_was_4 (tp : Int32) (knd : Nat → Int32) (sec : Nat → Int32) (sn : Int32) (ss : Nat → Int32) (sb : Nat → Int32) (sp : Nat → Int32) : Int32 := lp (fun iz z => nx_X6_was_4 knd sec sn ss sb sp iz z) 0 tp.toNatClampNeg
def f_X6_was (tp : Int32) (knd : Nat → Int32) (sec : Nat → Int32) (sn : Int32) (ss : Nat → Int32) (sb : Nat → Int32) (sp : Nat → Int32) : Int32 := (x_X6_was_4 tp knd sec sn ss sb sp)
abbrev rm_X6_was : Room := { frames := 4, cells := 0, slots := 0, locals := 88 }
set_option maxRecDepth 100000 in
theorem cut_c_seetown (cI : ClassId) (q : Nat → Nat) (lat : Int32) (und : Int32) (kpl : Int32) (len : Int32) (ncl : Int32) (spe : Int32) (sru : Int32) (sbe : Int32) (sen : Int32) (lets : Nat → Int32) (wrds : Nat → Int32) (nums : Nat → Int32) (tb : Int32) (tp : Int32) (tr : Int32) (knd : Nat → Int32) (sec : Nat → Int32) (brd : Nat → Int32) (rms : Nat → Int32) (std : Nat → Int32) (sn : Int32) (ss : Nat → Int32) (sb : Nat → Int32) (sp : Nat → Int32) (past : Nat → Int32) (kept : Nat → Int32) (n_sn : Int32) (n_ss : Nat → Int32) (n_sb : Nat → Int32) (n_sp : Nat → Int32) (n_tb : Int32) (n_tp : Int32) (n_tr : Int32) (n_knd : Nat → Int32) (n_sec : Nat → Int32) (n_brd : Nat → Int32) (n_rms : Nat → Int32) : kCut (wC cI q lat und kpl len ncl spe sru sbe sen lets wrds nums tb tp tr knd sec brd rms std sn ss sb sp past kept) (wSee cI q sn ss sb sp ++ wTown cI q tb tp tr knd sec brd rms) (wSee cI q n_sn n_ss n_sb n_sp ++ wTown cI q n_tb n_tp n_tr n_knd n_sec n_brd n_rms) (wC cI q lat und kpl len ncl spe sru sbe sen lets wrds nums n_tb n_tp n_tr n_knd n_sec n_brd n_rms std n_sn n_ss n_sb n_sp past kept) [((q 0), .inr (6, [.ref (q 1), .ref (q 8), .ref (q 17), .ref (q 20), .ref (q 27), .ref (q 30), .int lat, .int und, .int kpl])), ((q 1), .inr (1, [.ref (q 2), .ref (q 4), .ref (q 6), .int len, .int ncl, .int spe, .int sru, .int sbe, .int sen])), ((q 2), .inr (0, [.ref (q 3)])), ((q 3), .inl (cI, 160, .inl lets)), ((q 4), .inr (0, [.ref (q 5)])), ((q 5), .inl (cI, 14, .inl wrds)), ((q 6), .inr (0, [.ref (q 7)])), ((q 7), .inl (cI, 42, .inl nums)), ((q 17), .inr (4, [.ref (q 18)])), ((q 18), .inr (0, [.ref (q 19)])), ((q 19), .inl (cI, 85, .inl std)), ((q 27), .inr (2, [.ref (q 28)])), ((q 28), .inr (0, [.ref (q 29)])), ((q 29), .inl (cI, 680, .inl past)), ((q 30), .inr (2, [.ref (q 31)])), ((q 31), .inr (0, [.ref (q 32)])), ((q 32), .inl (cI, 170, .inl kept))] [20, 21, 22, 23, 24, 25, 26, 8, 9, 10, 11, 12, 13, 14, 15, 16] [0, 1, 2, 3, 4, 5, 6, 7, 17, 18, 19, 27, 28, 29, 30, 31, 32] [0, 1, 2, 3, 4, 5, 6, 7, 24, 25, 26, 27, 28, 29, 30, 31, 32, 8, 9, 10, 17, 18, 19, 20, 21, 22, 23, 11, 12, 13, 14, 15, 16] [q 20, q 21, q 22, q 23, q 24, q 25, q 26, q 8, q 9, q 10, q 11, q 12, q 13, q 14, q 15, q 16] ∧ kNd [20, 21, 22, 23, 24, 25, 26, 8, 9, 10, 11, 12, 13, 14, 15, 16] [0, 1, 2, 3, 4, 5, 6, 7, 17, 18, 19, 27, 28, 29, 30, 31, 32] [0, 1, 2, 3, 4, 5, 6, 7, 24, 25, 26, 27, 28, 29, 30, 31, 32, 8, 9, 10, 17, 18, 19, 20, 21, 22, 23, 11, 12, 13, 14, 15, 16] = true := ⟨⟨rfl, rfl, ⟨rfl, rfl⟩, rfl⟩, by decide +kernel⟩
set_option maxRecDepth 100000 in
set_option maxHeartbeats 4000000 in
theorem k_X6_was (l : Launch) (D : va_G) (cI cZ : ClassId) (adK adV : Nat → Nat) (q : Nat → Nat) (lat : Int32) (und : Int32) (kpl : Int32) (len : Int32) (ncl : Int32) (spe : Int32) (sru : Int32) (sbe : Int32) (sen : Int32) (lets : Nat → Int32) (wrds : Nat → Int32) (nums : Nat → Int32) (tb : Int32) (tp : Int32) (tr : Int32) (knd : Nat → Int32) (sec : Nat → Int32) (brd : Nat → Int32) (rms : Nat → Int32) (std : Nat → Int32) (sn : Int32) (ss : Nat → Int32) (sb : Nat → Int32) (sp : Nat → Int32) (past : Nat → Int32) (kept : Nat → Int32) : CI l D (kTy cI cZ) (kG adK adV) yX6_was (.code yX6_was cX6_was 3 (some .int) :: wsL_law) rm_X6_was [.ref (q 0)] (wC cI q lat und kpl len ncl spe sru sbe sen lets wrds nums tb tp tr knd sec brd rms std sn ss sb sp past kept) (wC cI q lat und kpl len ncl spe sru sbe sen lets wrds nums tb tp tr knd sec brd rms std sn ss sb sp past kept) (f_X6_was tp knd sec sn ss sb sp) := by
  refine CI.of (cc := cX6_was) (maxL := 3) (ty := .int) (by decide) rfl (Nat.le_of_ble_eq_true rfl) rfl ?_
  intro p e s m args below meth c A Q ls hx hb hml hts0 hown hA hP hK hD hE hl hret
  have hts : ∀ w ∈ wsL_law, w.before args s = true := fun w h => hts0 w (List.mem_cons_of_mem _ h)
  clear hts0
  have hown : s.vm.findClass RX6 = some m.cls := hown
  have hl : lv_has ls 3 [(0, .ref (q 0))] := hl
  have hS : va_S A s.heap s.heap [] := va_S.rf
  revert hP hS
  suffices hgo : ∀ (H : Heap) (locs : List Loc), va_P D vwCl (wC cI q lat und kpl len ncl spe sru sbe sen lets wrds nums tb tp tr knd sec brd rms std sn ss sb sp past kept) H → va_S A s.heap H locs → W p l e rm_X6_was s m args below meth c H locs 0 0 Q (F0 m 0 ls []) from fun a b => hgo _ _ a b
  intro H locs hP hS
  refine lv_iconst (v := 0) hx hb dX6_was_0 (by decide) ?_
  refine lv_istore_n (lv' := [(1, .int 0), (0, .ref (q 0))]) hx hb dX6_was_1 rfl hl (by decide) rfl (fun ls hl => ?_)
  refine lv_iconst (v := 0) hx hb dX6_was_2 (by decide) ?_
  refine lv_istore_n (lv' := [(2, .int 0), (1, .int 0), (0, .ref (q 0))]) hx hb dX6_was_3 rfl hl (by decide) rfl (fun ls hl => ?_)
  have lp4 : ∀ (k4 i : Nat) (x4_1 : Int32), i + k4 = tp.toNatClampNeg → x4_1 = lp (fun iz z => nx_X6_was_4 knd sec sn ss sb sp iz z) 0 i → ∀ (H : Heap) (locs : List Loc) (ls : Array Slot), va_P D vwCl (wC cI q lat und kpl len ncl spe sru sbe sen lets wrds nums tb tp tr knd sec brd rms std sn ss sb sp past kept) H → va_D A (wC cI q lat und kpl len ncl spe sru sbe sen lets wrds nums tb tp tr knd sec brd rms std sn ss sb sp past kept) → va_S A s.heap H locs → lv_has ls 3 [(0, .ref (q 0)), (1, .int x4_1), (2, .int (nI i))] → W p l e rm_X6_was s m args below meth c H locs 0 0 Q (F0 m 4 ls []) := by
    intro k4
    induction k4 with
    | zero =>
      intro i x4_1 hi4 ea4 H locs ls hP hD hS hl
      have hi4 : tp.toNatClampNeg = i := by omega
      subst hi4
      have ea4 : x4_1 = (x_X6_was_4 tp knd sec sn ss sb sp) := ea4
      subst ea4
      refine lv_iload_n hx hb dX6_was_4 rfl (lv_at hl 2 rfl) ?_
      refine lv_aload_n hx hb dX6_was_5 rfl (lv_at hl 0 rfl) ?_
      refine va_get (D := D) (ci := 6) (v := .ref (q 8)) (C := RX6) (T := TX6) (N := 9) hx hb hts inlX6 hown hK hP 0 rfl rfl 1 (by decide) (kw hts kin_1 19 rfl) (fun _ h9 => h9) rfl dX6_was_6 ?_
      refine va_get (D := D) (ci := 5) (v := .int tp) (C := RX5) (T := TX5) (N := 7) hx hb hts inlX5 hown hK hP 8 rfl rfl 1 (by decide) (kw hts kin_7 1 rfl) (fun _ h9 => h9) rfl dX6_was_9 ?_
      refine lv_icmp_ge (tgt := 42) hx hb dX6_was_12 (by decide) (fun _ => ?_) (fun c_12 => absurd (kle_clamp _) c_12)
      refine lv_iload_n hx hb dX6_was_42 rfl (lv_at hl 1 rfl) ?_
      have hf : (f_X6_was tp knd sec sn ss sb sp) = (x_X6_was_4 tp knd sec sn ss sb sp) := rfl
      rw [hf] at hret
      exact hret _ _ _ _ hP hS dX6_was_43
    | succ k4 ih4 =>
      intro i x4_1 hi4 ea4 H locs ls hP hD hS hl
      have hlt4 : i < tp.toNatClampNeg := by omega
      refine lv_iload_n hx hb dX6_was_4 rfl (lv_at hl 2 rfl) ?_
      refine lv_aload_n hx hb dX6_was_5 rfl (lv_at hl 0 rfl) ?_
      refine va_get (D := D) (ci := 6) (v := .ref (q 8)) (C := RX6) (T := TX6) (N := 9) hx hb hts inlX6 hown hK hP 0 rfl rfl 1 (by decide) (kw hts kin_1 19 rfl) (fun _ h9 => h9) rfl dX6_was_6 ?_
      refine va_get (D := D) (ci := 5) (v := .int tp) (C := RX5) (T := TX5) (N := 7) hx hb hts inlX5 hown hK hP 8 rfl rfl 1 (by decide) (kw hts kin_7 1 rfl) (fun _ h9 => h9) rfl dX6_was_9 ?_
      refine lv_icmp_ge (tgt := 42) hx hb dX6_was_12 (by decide) (fun c_12 => absurd c_12 (klt_clamp hlt4)) (fun _ => ?_)
      refine lv_aload_n hx hb dX6_was_15 rfl (lv_at hl 0 rfl) ?_
      refine va_get (D := D) (ci := 6) (v := .ref (q 20)) (C := RX6) (T := TX6) (N := 9) hx hb hts inlX6 hown hK hP 0 rfl rfl 3 (by decide) (kw hts kin_2 3 rfl) (fun _ h9 => h9) rfl dX6_was_16 ?_
      refine lv_aload_n hx hb dX6_was_19 rfl (lv_at hl 0 rfl) ?_
      refine va_get (D := D) (ci := 6) (v := .ref (q 8)) (C := RX6) (T := TX6) (N := 9) hx hb hts inlX6 hown hK hP 0 rfl rfl 1 (by decide) (kw hts kin_1 19 rfl) (fun _ h9 => h9) rfl dX6_was_20 ?_
      refine lv_iload_n hx hb dX6_was_23 rfl (lv_at hl 2 rfl) ?_
      refine kvi (As := [.ref (q 8), .int (nI i)]) (rest := []) (q0 := 0) (ci := 3) ⟨hx, hb, hml, hown, hts⟩ hP hK hD hS hA hE (k_X3_allTrueOf l D cI cZ adK adV q sn ss sb sp tb tp tr knd sec brd rms (nI i)) (kcv hts kM_X3_allTrueOf (kin_32 _ (List.mem_of_getElem? (i := 10) rfl)) ⟨rfl, rfl⟩ ⟨Nat.le_of_ble_eq_true rfl, Nat.le_of_ble_eq_true rfl⟩) kBl_G kOk_G (wC cI q lat und kpl len ncl spe sru sbe sen lets wrds nums tb tp tr knd sec brd rms std sn ss sb sp past kept) (cut_c_seetown cI q lat und kpl len ncl spe sru sbe sen lets wrds nums tb tp tr knd sec brd rms std sn ss sb sp past kept sn ss sb sp tb tp tr knd sec brd rms).1 (cut_c_seetown cI q lat und kpl len ncl spe sru sbe sen lets wrds nums tb tp tr knd sec brd rms std sn ss sb sp past kept sn ss sb sp tb tp tr knd sec brd rms).2 rfl rfl rfl rfl hl.1 rfl (Nat.le_of_ble_eq_true rfl) dX6_was_24 (fun H locs hP hD hS => ?_)
      have J27 : ∀ (H : Heap) (locs : List Loc) (ls : Array Slot), va_P D vwCl (wC cI q lat und kpl len ncl spe sru sbe sen lets wrds nums tb tp tr knd sec brd rms std sn ss sb sp past kept) H → va_D A (wC cI q lat und kpl len ncl spe sru sbe sen lets wrds nums tb tp tr knd sec brd rms std sn ss sb sp past kept) → va_S A s.heap H locs → lv_has ls 3 [(0, .ref (q 0)), (1, .int (v_X6_was_27_0 knd sec sn ss sb sp i x4_1)), (2, .int (nI i))] → W p l e rm_X6_was s m args below meth c H locs 0 0 Q (F0 m 36 ls []) := by
        intro H locs ls hP hD hS hl
        refine lv_iinc (v := (nI (i + 1))) (lv' := [(2, .int (nI (i + 1))), (0, .ref (q 0)), (1, .int (v_X6_was_27_0 knd sec sn ss sb sp i x4_1))]) hx hb dX6_was_36 hl (k := 2) rfl (nI_1 i) (by decide) rfl (fun ls hl => ?_)
        refine lv_goto (tgt := 4) hx hb dX6_was_39 (by decide) ?_
        have hb4 : nx_X6_was_4 knd sec sn ss sb sp i x4_1 = (v_X6_was_27_0 knd sec sn ss sb sp i x4_1) := rfl
        have hs4 : (lp (fun iz z => nx_X6_was_4 knd sec sn ss sb sp iz z) 0 (i + 1) : Int32) = nx_X6_was_4 knd sec sn ss sb sp i (lp (fun iz z => nx_X6_was_4 knd sec sn ss sb sp iz z) 0 i : Int32) := lp_succ _ _ _
        rw [← ea4] at hs4
        exact ih4 (i + 1) (v_X6_was_27_0 knd sec sn ss sb sp i x4_1) (by omega) (hb4.symm.trans hs4.symm) _ _ _ hP hD hS (lv_sub hl [1, 2, 0] rfl)
      refine lv_if_eq (tgt := 36) hx hb dX6_was_27 (by decide) (fun c_27 => ?_) (fun c_27 => ?_)
      · skip
        rw [show (v_X6_was_27_0 knd sec sn ss sb sp i x4_1) = x4_1 from (if_pos c_27)] at J27
        exact J27 _ _ _ hP hD hS (lv_sub hl [0, 1, 2] rfl)
      · skip
        refine lv_iload_n hx hb dX6_was_30 rfl (lv_at hl 1 rfl) ?_
        refine lv_iconst (v := 1) hx hb dX6_was_31 (by decide) ?_
        refine lv_iload_n hx hb dX6_was_32 rfl (lv_at hl 2 rfl) ?_
        refine lv_ishl hx hb dX6_was_33 ?_
        refine lv_ior hx hb dX6_was_34 ?_
        refine lv_istore_n (lv' := [(1, .int (x4_1 ||| (1 <<< ((nI i) &&& 31)))), (0, .ref (q 0)), (2, .int (nI i))]) hx hb dX6_was_35 rfl hl (by decide) rfl (fun ls hl => ?_)
        rw [show (v_X6_was_27_0 knd sec sn ss sb sp i x4_1) = (x4_1 ||| (1 <<< ((nI i) &&& 31))) from (if_neg c_27)] at J27
        exact J27 _ _ _ hP hD hS (lv_sub hl [1, 0, 2] rfl)
  exact lp4 tp.toNatClampNeg 0 0 (Nat.zero_add _) (lp_zero _ _).symm _ _ _ hP hD hS (lv_sub hl [2, 1, 0] rfl)
