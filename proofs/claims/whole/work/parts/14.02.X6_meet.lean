def v_X6_meet_52_0 (tb : Int32) (tr : Int32) (rms : Nat → Int32) (std : Nat → Int32) (person : Int32) (rumour : Int32) (i : Nat) (x27_3 : Int32) (x27_4 : Int32) : Int32 := if x27_4 ≤ (f_J6_bitCount_0f7a4 (nI i)) then x27_3 else (if (f_X6_fittingTogether tb tr rms std (nI i) person) = (1 <<< (rumour &&& 31)) then (nI i) else x27_3)
def v_X6_meet_52_1 (tb : Int32) (tr : Int32) (rms : Nat → Int32) (std : Nat → Int32) (person : Int32) (rumour : Int32) (i : Nat) (x27_4 : Int32) : Int32 := if x27_4 ≤ (f_J6_bitCount_0f7a4 (nI i)) then x27_4 else (if (f_X6_fittingTogether tb tr rms std (nI i) person) = (1 <<< (rumour &&& 31)) then (f_J6_bitCount_0f7a4 (nI i)) else x27_4)
def nx_X6_meet_27 (tb : Int32) (tr : Int32) (rms : Nat → Int32) (std : Nat → Int32) (person : Int32) (rumour : Int32) (i : Nat) (x27_3 : Int32) (x27_4 : Int32) : Int32 × Int32 := ((v_X6_meet_52_0 tb tr rms std person rumour i x27_3 x27_4), (v_X6_meet_52_1 tb tr rms std person rumour i x27_4))
def x_X6_meet_27 (tb : Int32) (tr : Int32) (rms : Nat → Int32) (std : Nat → Int32) (person : Int32) (rumour : Int32) : Int32 × Int32 := lp (fun iz z => nx_X6_meet_27 tb tr rms std person rumour iz z.1 z.2) ((-1), 5) ((1 <<< (tb &&& 31)).toNatClampNeg)
def f_X6_meet (tb : Int32) (tp : Int32) (tr : Int32) (rms : Nat → Int32) (std : Nat → Int32) (person : Int32) (rumour : Int32) : Int32 := if (f_X6_isPerson tp person) = 0 then (-2) else (if (f_X6_isRumour tr rumour) = 0 then (-2) else ((x_X6_meet_27 tb tr rms std person rumour).1))
abbrev rm_X6_meet : Room := { frames := 4, cells := 0, slots := 0, locals := 92 }
set_option maxRecDepth 100000 in
set_option maxHeartbeats 4000000 in
theorem k_X6_meet (l : Launch) (D : va_G) (cI cZ : ClassId) (adK adV : Nat → Nat) (q : Nat → Nat) (lat : Int32) (und : Int32) (kpl : Int32) (len : Int32) (ncl : Int32) (spe : Int32) (sru : Int32) (sbe : Int32) (sen : Int32) (lets : Nat → Int32) (wrds : Nat → Int32) (nums : Nat → Int32) (tb : Int32) (tp : Int32) (tr : Int32) (knd : Nat → Int32) (sec : Nat → Int32) (brd : Nat → Int32) (rms : Nat → Int32) (std : Nat → Int32) (sn : Int32) (ss : Nat → Int32) (sb : Nat → Int32) (sp : Nat → Int32) (past : Nat → Int32) (kept : Nat → Int32) (person : Int32) (rumour : Int32) : CI l D (kTy cI cZ) (kG adK adV) yX6_meet (.code yX6_meet cX6_meet 7 (some .int) :: wsL_law) rm_X6_meet [.ref (q 0), .int person, .int rumour] (wC cI q lat und kpl len ncl spe sru sbe sen lets wrds nums tb tp tr knd sec brd rms std sn ss sb sp past kept) (wC cI q lat und kpl len ncl spe sru sbe sen lets wrds nums tb tp tr knd sec brd rms std sn ss sb sp past kept) (f_X6_meet tb tp tr rms std person rumour) := by
  refine CI.of (cc := cX6_meet) (maxL := 7) (ty := .int) (by decide) rfl (Nat.le_of_ble_eq_true rfl) rfl ?_
  intro p e s m args below meth c A Q ls hx hb hml hts0 hown hA hP hK hD hE hl hret
  have hts : ∀ w ∈ wsL_law, w.before args s = true := fun w h => hts0 w (List.mem_cons_of_mem _ h)
  clear hts0
  have hown : s.vm.findClass RX6 = some m.cls := hown
  have hl : lv_has ls 7 [(0, .ref (q 0)), (1, .int person), (2, .int rumour)] := hl
  have hS : va_S A s.heap s.heap [] := va_S.rf
  revert hP hS
  suffices hgo : ∀ (H : Heap) (locs : List Loc), va_P D vwCl (wC cI q lat und kpl len ncl spe sru sbe sen lets wrds nums tb tp tr knd sec brd rms std sn ss sb sp past kept) H → va_S A s.heap H locs → W p l e rm_X6_meet s m args below meth c H locs 0 0 Q (F0 m 0 ls []) from fun a b => hgo _ _ a b
  intro H locs hP hS
  refine lv_aload_n hx hb dX6_meet_0 rfl (lv_at hl 0 rfl) ?_
  refine lv_iload_n hx hb dX6_meet_1 rfl (lv_at hl 1 rfl) ?_
  refine kvi (As := [.int person]) (rest := []) (q0 := 0) (ci := 6) ⟨hx, hb, hml, hown, hts⟩ hP hK hD hS hA hE (k_X6_isPerson l D cI cZ adK adV q lat und kpl len ncl spe sru sbe sen lets wrds nums tb tp tr knd sec brd rms std sn ss sb sp past kept person) (kcv hts kM_X6_isPerson (kin_17 _ (List.mem_of_getElem? (i := 1) rfl)) ⟨rfl, rfl⟩ ⟨Nat.le_of_ble_eq_true rfl, Nat.le_of_ble_eq_true rfl⟩) kBl_G kOk_G (wC cI q lat und kpl len ncl spe sru sbe sen lets wrds nums tb tp tr knd sec brd rms std sn ss sb sp past kept) (cut_c_c cI q lat und kpl len ncl spe sru sbe sen lets wrds nums tb tp tr knd sec brd rms std sn ss sb sp past kept lat und kpl len ncl spe sru sbe sen lets wrds nums tb tp tr knd sec brd rms std sn ss sb sp past kept).1 (cut_c_c cI q lat und kpl len ncl spe sru sbe sen lets wrds nums tb tp tr knd sec brd rms std sn ss sb sp past kept lat und kpl len ncl spe sru sbe sen lets wrds nums tb tp tr knd sec brd rms std sn ss sb sp past kept).2 rfl rfl rfl rfl hl.1 rfl (Nat.le_of_ble_eq_true rfl) dX6_meet_2 (fun H locs hP hD hS => ?_)
  refine lv_if_eq (tgt := 16) hx hb dX6_meet_5 (by decide) (fun c_5 => ?_) (fun c_5 => ?_)
  · skip
    refine lv_bipush (v := (-2)) hx hb dX6_meet_16 (by decide) ?_
    have hf : (f_X6_meet tb tp tr rms std person rumour) = (-2) := (if_pos c_5)
    rw [hf] at hret
    exact hret _ _ _ _ hP hS dX6_meet_18
  · skip
    refine lv_aload_n hx hb dX6_meet_8 rfl (lv_at hl 0 rfl) ?_
    refine lv_iload_n hx hb dX6_meet_9 rfl (lv_at hl 2 rfl) ?_
    refine kvi (As := [.int rumour]) (rest := []) (q0 := 0) (ci := 6) ⟨hx, hb, hml, hown, hts⟩ hP hK hD hS hA hE (k_X6_isRumour l D cI cZ adK adV q lat und kpl len ncl spe sru sbe sen lets wrds nums tb tp tr knd sec brd rms std sn ss sb sp past kept rumour) (kcv hts kM_X6_isRumour (kin_19 _ (List.mem_of_getElem? (i := 14) rfl)) ⟨rfl, rfl⟩ ⟨Nat.le_of_ble_eq_true rfl, Nat.le_of_ble_eq_true rfl⟩) kBl_G kOk_G (wC cI q lat und kpl len ncl spe sru sbe sen lets wrds nums tb tp tr knd sec brd rms std sn ss sb sp past kept) (cut_c_c cI q lat und kpl len ncl spe sru sbe sen lets wrds nums tb tp tr knd sec brd rms std sn ss sb sp past kept lat und kpl len ncl spe sru sbe sen lets wrds nums tb tp tr knd sec brd rms std sn ss sb sp past kept).1 (cut_c_c cI q lat und kpl len ncl spe sru sbe sen lets wrds nums tb tp tr knd sec brd rms std sn ss sb sp past kept lat und kpl len ncl spe sru sbe sen lets wrds nums tb tp tr knd sec brd rms std sn ss sb sp past kept).2 rfl rfl rfl rfl hl.1 rfl (Nat.le_of_ble_eq_true rfl) dX6_meet_10 (fun H locs hP hD hS => ?_)
    refine lv_if_ne (tgt := 19) hx hb dX6_meet_13 (by decide) (fun c_13 => ?_) (fun c_13 => ?_)
    · skip
      refine lv_iconst (v := (-1)) hx hb dX6_meet_19 (by decide) ?_
      refine lv_istore_n (lv' := [(3, .int (-1)), (0, .ref (q 0)), (1, .int person), (2, .int rumour)]) hx hb dX6_meet_20 rfl hl (by decide) rfl (fun ls hl => ?_)
      refine lv_iconst (v := 5) hx hb dX6_meet_21 (by decide) ?_
      refine lv_istore (lv' := [(4, .int 5), (3, .int (-1)), (0, .ref (q 0)), (1, .int person), (2, .int rumour)]) hx hb dX6_meet_22 hl (by decide) rfl (fun ls hl => ?_)
      refine lv_iconst (v := 0) hx hb dX6_meet_24 (by decide) ?_
      refine lv_istore (lv' := [(5, .int 0), (4, .int 5), (3, .int (-1)), (0, .ref (q 0)), (1, .int person), (2, .int rumour)]) hx hb dX6_meet_25 hl (by decide) rfl (fun ls hl => ?_)
      have lp27 : ∀ (k27 i : Nat) (x27_3 : Int32) (x27_4 : Int32), i + k27 = (1 <<< (tb &&& 31)).toNatClampNeg → (x27_3, x27_4) = lp (fun iz z => nx_X6_meet_27 tb tr rms std person rumour iz z.1 z.2) ((-1), 5) i → ∀ (H : Heap) (locs : List Loc) (ls : Array Slot), va_P D vwCl (wC cI q lat und kpl len ncl spe sru sbe sen lets wrds nums tb tp tr knd sec brd rms std sn ss sb sp past kept) H → va_D A (wC cI q lat und kpl len ncl spe sru sbe sen lets wrds nums tb tp tr knd sec brd rms std sn ss sb sp past kept) → va_S A s.heap H locs → lv_has ls 7 [(0, .ref (q 0)), (1, .int person), (2, .int rumour), (3, .int x27_3), (4, .int x27_4), (5, .int (nI i))] → W p l e rm_X6_meet s m args below meth c H locs 0 0 Q (F0 m 27 ls []) := by
        intro k27
        induction k27 with
        | zero =>
          intro i x27_3 x27_4 hi27 ea27 H locs ls hP hD hS hl
          have hi27 : (1 <<< (tb &&& 31)).toNatClampNeg = i := by omega
          subst hi27
          have ea27 : (x27_3, x27_4) = (x_X6_meet_27 tb tr rms std person rumour) := ea27
          have e27_0 : x27_3 = ((x_X6_meet_27 tb tr rms std person rumour).1) := (kfst ea27)
          have e27_1 : x27_4 = ((x_X6_meet_27 tb tr rms std person rumour).2) := (ksnd ea27)
          clear ea27
          have hl : lv_has ls 7 [(0, .ref (q 0)), (1, .int person), (2, .int rumour), (3, .int ((x_X6_meet_27 tb tr rms std person rumour).1)), (4, .int ((x_X6_meet_27 tb tr rms std person rumour).2)), (5, .int (nI ((1 <<< (tb &&& 31)).toNatClampNeg)))] := by rw [← e27_0, ← e27_1]; exact hl
          refine lv_iload hx hb dX6_meet_27 (lv_at hl 5 rfl) ?_
          refine lv_iconst (v := 1) hx hb dX6_meet_29 (by decide) ?_
          refine lv_aload_n hx hb dX6_meet_30 rfl (lv_at hl 0 rfl) ?_
          refine va_get (D := D) (ci := 6) (v := .ref (q 8)) (C := RX6) (T := TX6) (N := 9) hx hb hts inlX6 hown hK hP 0 rfl rfl 1 (by decide) (kw hts kin_1 19 rfl) (fun _ h9 => h9) rfl dX6_meet_31 ?_
          refine va_get (D := D) (ci := 5) (v := .int tb) (C := RX5) (T := TX5) (N := 7) hx hb hts inlX5 hown hK hP 8 rfl rfl 0 (by decide) (kw hts kin_20 14 rfl) (fun _ h9 => h9) rfl dX6_meet_34 ?_
          refine lv_ishl hx hb dX6_meet_37 ?_
          refine lv_icmp_ge (tgt := 81) hx hb dX6_meet_38 (by decide) (fun _ => ?_) (fun c_38 => absurd (kle_clamp _) c_38)
          refine lv_iload_n hx hb dX6_meet_81 rfl (lv_at hl 3 rfl) ?_
          have hf : (f_X6_meet tb tp tr rms std person rumour) = ((x_X6_meet_27 tb tr rms std person rumour).1) := ((if_neg c_5).trans (if_neg c_13))
          rw [hf] at hret
          exact hret _ _ _ _ hP hS dX6_meet_82
        | succ k27 ih27 =>
          intro i x27_3 x27_4 hi27 ea27 H locs ls hP hD hS hl
          have hlt27 : i < (1 <<< (tb &&& 31)).toNatClampNeg := by omega
          refine lv_iload hx hb dX6_meet_27 (lv_at hl 5 rfl) ?_
          refine lv_iconst (v := 1) hx hb dX6_meet_29 (by decide) ?_
          refine lv_aload_n hx hb dX6_meet_30 rfl (lv_at hl 0 rfl) ?_
          refine va_get (D := D) (ci := 6) (v := .ref (q 8)) (C := RX6) (T := TX6) (N := 9) hx hb hts inlX6 hown hK hP 0 rfl rfl 1 (by decide) (kw hts kin_1 19 rfl) (fun _ h9 => h9) rfl dX6_meet_31 ?_
          refine va_get (D := D) (ci := 5) (v := .int tb) (C := RX5) (T := TX5) (N := 7) hx hb hts inlX5 hown hK hP 8 rfl rfl 0 (by decide) (kw hts kin_20 14 rfl) (fun _ h9 => h9) rfl dX6_meet_34 ?_
          refine lv_ishl hx hb dX6_meet_37 ?_
          refine lv_icmp_ge (tgt := 81) hx hb dX6_meet_38 (by decide) (fun c_38 => absurd c_38 (klt_clamp hlt27)) (fun _ => ?_)
          refine lv_iload hx hb dX6_meet_41 (lv_at hl 5 rfl) ?_
          refine ksi (As := [.int (nI i)]) (rest := []) ⟨hx, hb, hml, hown, hts⟩ hP hK hD hS hA hE (k_J6_bitCount_0f7a4 l D cI cZ adK adV (nI i)) (kcs hts kM_J6_bitCount_0f7a4 (kin_26 _ (List.mem_of_getElem? (i := 13) rfl)) ⟨rfl, rfl⟩ ⟨Nat.le_of_ble_eq_true rfl, Nat.le_of_ble_eq_true rfl⟩) kBl_G kOk_G rfl hl.1 rfl (Nat.le_of_ble_eq_true rfl) dX6_meet_43 (fun H locs hP hD hS => ?_)
          refine lv_istore (lv' := [(6, .int (f_J6_bitCount_0f7a4 (nI i))), (0, .ref (q 0)), (1, .int person), (2, .int rumour), (3, .int x27_3), (4, .int x27_4), (5, .int (nI i))]) hx hb dX6_meet_46 hl (by decide) rfl (fun ls hl => ?_)
          refine lv_iload hx hb dX6_meet_48 (lv_at hl 0 rfl) ?_
          refine lv_iload hx hb dX6_meet_50 (lv_at hl 5 rfl) ?_
          have J52 : ∀ (H : Heap) (locs : List Loc) (ls : Array Slot), va_P D vwCl (wC cI q lat und kpl len ncl spe sru sbe sen lets wrds nums tb tp tr knd sec brd rms std sn ss sb sp past kept) H → va_D A (wC cI q lat und kpl len ncl spe sru sbe sen lets wrds nums tb tp tr knd sec brd rms std sn ss sb sp past kept) → va_S A s.heap H locs → lv_has ls 7 [(0, .ref (q 0)), (1, .int person), (2, .int rumour), (3, .int (v_X6_meet_52_0 tb tr rms std person rumour i x27_3 x27_4)), (4, .int (v_X6_meet_52_1 tb tr rms std person rumour i x27_4)), (5, .int (nI i)), (6, .int (f_J6_bitCount_0f7a4 (nI i)))] → W p l e rm_X6_meet s m args below meth c H locs 0 0 Q (F0 m 75 ls []) := by
            intro H locs ls hP hD hS hl
            refine lv_iinc (v := (nI (i + 1))) (lv' := [(5, .int (nI (i + 1))), (0, .ref (q 0)), (1, .int person), (2, .int rumour), (3, .int (v_X6_meet_52_0 tb tr rms std person rumour i x27_3 x27_4)), (4, .int (v_X6_meet_52_1 tb tr rms std person rumour i x27_4)), (6, .int (f_J6_bitCount_0f7a4 (nI i)))]) hx hb dX6_meet_75 hl (k := 5) rfl (nI_1 i) (by decide) rfl (fun ls hl => ?_)
            refine lv_goto (tgt := 27) hx hb dX6_meet_78 (by decide) ?_
            have hb27 : nx_X6_meet_27 tb tr rms std person rumour i x27_3 x27_4 = ((v_X6_meet_52_0 tb tr rms std person rumour i x27_3 x27_4), (v_X6_meet_52_1 tb tr rms std person rumour i x27_4)) := rfl
            have hs27 : (lp (fun iz z => nx_X6_meet_27 tb tr rms std person rumour iz z.1 z.2) ((-1), 5) (i + 1) : Int32 × Int32) = nx_X6_meet_27 tb tr rms std person rumour i ((lp (fun iz z => nx_X6_meet_27 tb tr rms std person rumour iz z.1 z.2) ((-1), 5) i : Int32 × Int32).1) ((lp (fun iz z => nx_X6_meet_27 tb tr rms std person rumour iz z.1 z.2) ((-1), 5) i : Int32 × Int32).2) := lp_succ _ _ _
            rw [← ea27] at hs27
            exact ih27 (i + 1) (v_X6_meet_52_0 tb tr rms std person rumour i x27_3 x27_4) (v_X6_meet_52_1 tb tr rms std person rumour i x27_4) (by omega) (hb27.symm.trans hs27.symm) _ _ _ hP hD hS (lv_sub hl [1, 2, 3, 4, 5, 0] rfl)
          refine lv_icmp_ge (tgt := 75) hx hb dX6_meet_52 (by decide) (fun c_52 => ?_) (fun c_52 => ?_)
          · skip
            rw [show (v_X6_meet_52_0 tb tr rms std person rumour i x27_3 x27_4) = x27_3 from (if_pos c_52)] at J52
            rw [show (v_X6_meet_52_1 tb tr rms std person rumour i x27_4) = x27_4 from (if_pos c_52)] at J52
            exact J52 _ _ _ hP hD hS (lv_sub hl [1, 2, 3, 4, 5, 6, 0] rfl)
          · skip
            refine lv_aload_n hx hb dX6_meet_55 rfl (lv_at hl 1 rfl) ?_
            refine lv_iload hx hb dX6_meet_56 (lv_at hl 6 rfl) ?_
            refine lv_iload_n hx hb dX6_meet_58 rfl (lv_at hl 2 rfl) ?_
            refine kvi (As := [.int (nI i), .int person]) (rest := []) (q0 := 0) (ci := 6) ⟨hx, hb, hml, hown, hts⟩ hP hK hD hS hA hE (k_X6_fittingTogether l D cI cZ adK adV q lat und kpl len ncl spe sru sbe sen lets wrds nums tb tp tr knd sec brd rms std sn ss sb sp past kept (nI i) person) (kcv hts kM_X6_fittingTogether (kin_30 _ (List.mem_of_getElem? (i := 12) rfl)) ⟨rfl, rfl⟩ ⟨Nat.le_of_ble_eq_true rfl, Nat.le_of_ble_eq_true rfl⟩) kBl_G kOk_G (wC cI q lat und kpl len ncl spe sru sbe sen lets wrds nums tb tp tr knd sec brd rms std sn ss sb sp past kept) (cut_c_c cI q lat und kpl len ncl spe sru sbe sen lets wrds nums tb tp tr knd sec brd rms std sn ss sb sp past kept lat und kpl len ncl spe sru sbe sen lets wrds nums tb tp tr knd sec brd rms std sn ss sb sp past kept).1 (cut_c_c cI q lat und kpl len ncl spe sru sbe sen lets wrds nums tb tp tr knd sec brd rms std sn ss sb sp past kept lat und kpl len ncl spe sru sbe sen lets wrds nums tb tp tr knd sec brd rms std sn ss sb sp past kept).2 rfl rfl rfl rfl hl.1 rfl (Nat.le_of_ble_eq_true rfl) dX6_meet_59 (fun H locs hP hD hS => ?_)
            refine lv_iconst (v := 1) hx hb dX6_meet_62 (by decide) ?_
            refine lv_iload_n hx hb dX6_meet_63 rfl (lv_at hl 3 rfl) ?_
            refine lv_ishl hx hb dX6_meet_64 ?_
            refine lv_icmp_ne (tgt := 75) hx hb dX6_meet_65 (by decide) (fun c_65 => ?_) (fun c_65 => ?_)
            · skip
              rw [show (v_X6_meet_52_0 tb tr rms std person rumour i x27_3 x27_4) = x27_3 from ((if_neg c_52).trans (if_neg c_65))] at J52
              rw [show (v_X6_meet_52_1 tb tr rms std person rumour i x27_4) = x27_4 from ((if_neg c_52).trans (if_neg c_65))] at J52
              exact J52 _ _ _ hP hD hS (lv_sub hl [1, 2, 3, 4, 5, 6, 0] rfl)
            · skip
              refine lv_iload hx hb dX6_meet_68 (lv_at hl 6 rfl) ?_
              refine lv_istore_n (lv' := [(3, .int (nI i)), (6, .int (f_J6_bitCount_0f7a4 (nI i))), (0, .ref (q 0)), (1, .int person), (2, .int rumour), (4, .int x27_4), (5, .int (nI i))]) hx hb dX6_meet_70 rfl hl (by decide) rfl (fun ls hl => ?_)
              refine lv_iload hx hb dX6_meet_71 (lv_at hl 1 rfl) ?_
              refine lv_istore (lv' := [(4, .int (f_J6_bitCount_0f7a4 (nI i))), (3, .int (nI i)), (6, .int (f_J6_bitCount_0f7a4 (nI i))), (0, .ref (q 0)), (1, .int person), (2, .int rumour), (5, .int (nI i))]) hx hb dX6_meet_73 hl (by decide) rfl (fun ls hl => ?_)
              rw [show (v_X6_meet_52_0 tb tr rms std person rumour i x27_3 x27_4) = (nI i) from ((if_neg c_52).trans (if_pos c_65))] at J52
              rw [show (v_X6_meet_52_1 tb tr rms std person rumour i x27_4) = (f_J6_bitCount_0f7a4 (nI i)) from ((if_neg c_52).trans (if_pos c_65))] at J52
              exact J52 _ _ _ hP hD hS (lv_sub hl [3, 4, 5, 1, 0, 6, 2] rfl)
      exact lp27 ((1 <<< (tb &&& 31)).toNatClampNeg) 0 (-1) 5 (Nat.zero_add _) (lp_zero _ _).symm _ _ _ hP hD hS (lv_sub hl [3, 4, 5, 2, 1, 0] rfl)
    · skip
      refine lv_bipush (v := (-2)) hx hb dX6_meet_16 (by decide) ?_
      have hf : (f_X6_meet tb tp tr rms std person rumour) = (-2) := ((if_neg c_5).trans (if_pos c_13))
      rw [hf] at hret
      exact hret _ _ _ _ hP hS dX6_meet_18
