def f_X6_person (tp : Int32) (knd : Nat → Int32) (sec : Nat → Int32) (std : Nat → Int32) (person : Int32) (what : Int32) : Int32 := if (f_X6_isPerson tp person) = 0 then (-2) else (if what = 0 then (f_X5_kindOf knd person) else (if what = 1 then (f_X5_secretOf sec person) else (if what = 2 then (f_X4_bareStrips std person) else (if what = 3 then (f_X4_beardsOf std person) else (-3)))))
abbrev rm_X6_person : Room := { frames := 3, cells := 0, slots := 0, locals := 66 }
set_option maxRecDepth 100000 in
set_option maxHeartbeats 4000000 in
theorem k_X6_person (l : Launch) (D : va_G) (cI cZ : ClassId) (adK adV : Nat → Nat) (q : Nat → Nat) (lat : Int32) (und : Int32) (kpl : Int32) (len : Int32) (ncl : Int32) (spe : Int32) (sru : Int32) (sbe : Int32) (sen : Int32) (lets : Nat → Int32) (wrds : Nat → Int32) (nums : Nat → Int32) (tb : Int32) (tp : Int32) (tr : Int32) (knd : Nat → Int32) (sec : Nat → Int32) (brd : Nat → Int32) (rms : Nat → Int32) (std : Nat → Int32) (sn : Int32) (ss : Nat → Int32) (sb : Nat → Int32) (sp : Nat → Int32) (past : Nat → Int32) (kept : Nat → Int32) (person : Int32) (what : Int32) : CI l D (kTy cI cZ) (kG adK adV) yX6_person (.code yX6_person cX6_person 3 (some .int) :: wsL_law) rm_X6_person [.ref (q 0), .int person, .int what] (wC cI q lat und kpl len ncl spe sru sbe sen lets wrds nums tb tp tr knd sec brd rms std sn ss sb sp past kept) (wC cI q lat und kpl len ncl spe sru sbe sen lets wrds nums tb tp tr knd sec brd rms std sn ss sb sp past kept) (f_X6_person tp knd sec std person what) := by
  refine CI.of (cc := cX6_person) (maxL := 3) (ty := .int) (by decide) rfl (Nat.le_of_ble_eq_true rfl) rfl ?_
  intro p e s m args below meth c A Q ls hx hb hml hts0 hown hA hP hK hD hE hl hret
  have hts : ∀ w ∈ wsL_law, w.before args s = true := fun w h => hts0 w (List.mem_cons_of_mem _ h)
  clear hts0
  have hown : s.vm.findClass RX6 = some m.cls := hown
  have hl : lv_has ls 3 [(0, .ref (q 0)), (1, .int person), (2, .int what)] := hl
  have hS : va_S A s.heap s.heap [] := va_S.rf
  revert hP hS
  suffices hgo : ∀ (H : Heap) (locs : List Loc), va_P D vwCl (wC cI q lat und kpl len ncl spe sru sbe sen lets wrds nums tb tp tr knd sec brd rms std sn ss sb sp past kept) H → va_S A s.heap H locs → W p l e rm_X6_person s m args below meth c H locs 0 0 Q (F0 m 0 ls []) from fun a b => hgo _ _ a b
  intro H locs hP hS
  refine lv_aload_n hx hb dX6_person_0 rfl (lv_at hl 0 rfl) ?_
  refine lv_iload_n hx hb dX6_person_1 rfl (lv_at hl 1 rfl) ?_
  refine kvi (As := [.int person]) (rest := []) (q0 := 0) (ci := 6) ⟨hx, hb, hml, hown, hts⟩ hP hK hD hS hA hE (k_X6_isPerson l D cI cZ adK adV q lat und kpl len ncl spe sru sbe sen lets wrds nums tb tp tr knd sec brd rms std sn ss sb sp past kept person) (kcv hts kM_X6_isPerson (kin_17 _ (List.mem_of_getElem? (i := 1) rfl)) ⟨rfl, rfl⟩ ⟨Nat.le_of_ble_eq_true rfl, Nat.le_of_ble_eq_true rfl⟩) kBl_G kOk_G (wC cI q lat und kpl len ncl spe sru sbe sen lets wrds nums tb tp tr knd sec brd rms std sn ss sb sp past kept) (cut_c_c cI q lat und kpl len ncl spe sru sbe sen lets wrds nums tb tp tr knd sec brd rms std sn ss sb sp past kept lat und kpl len ncl spe sru sbe sen lets wrds nums tb tp tr knd sec brd rms std sn ss sb sp past kept).1 (cut_c_c cI q lat und kpl len ncl spe sru sbe sen lets wrds nums tb tp tr knd sec brd rms std sn ss sb sp past kept lat und kpl len ncl spe sru sbe sen lets wrds nums tb tp tr knd sec brd rms std sn ss sb sp past kept).2 rfl rfl rfl rfl hl.1 rfl (Nat.le_of_ble_eq_true rfl) dX6_person_2 (fun H locs hP hD hS => ?_)
  refine lv_if_ne (tgt := 11) hx hb dX6_person_5 (by decide) (fun c_5 => ?_) (fun c_5 => ?_)
  · skip
    refine lv_iload_n hx hb dX6_person_11 rfl (lv_at hl 2 rfl) ?_
    by_cases c_12_0 : what = 0
    · skip
      refine lv_tableIn (off := 32) (tgt := 44) hx hb dX6_person_12 (by rw [c_12_0]; decide) (by rw [c_12_0]; decide) (by rw [c_12_0]; rfl) (by decide) ?_
      refine lv_aload_n hx hb dX6_person_44 rfl (lv_at hl 0 rfl) ?_
      refine va_get (D := D) (ci := 6) (v := .ref (q 8)) (C := RX6) (T := TX6) (N := 9) hx hb hts inlX6 hown hK hP 0 rfl rfl 1 (by decide) (kw hts kin_1 19 rfl) (fun _ h9 => h9) rfl dX6_person_45 ?_
      refine lv_iload_n hx hb dX6_person_48 rfl (lv_at hl 1 rfl) ?_
      refine kvi (As := [.int person]) (rest := []) (q0 := 0) (ci := 5) ⟨hx, hb, hml, hown, hts⟩ hP hK hD hS hA hE (k_X5_kindOf l D cI cZ adK adV q tb tp tr knd sec brd rms person) (kcv hts kM_X5_kindOf (kin_17 _ (List.mem_of_getElem? (i := 5) rfl)) ⟨rfl, rfl⟩ ⟨Nat.le_of_ble_eq_true rfl, Nat.le_of_ble_eq_true rfl⟩) kBl_G kOk_G (wC cI q lat und kpl len ncl spe sru sbe sen lets wrds nums tb tp tr knd sec brd rms std sn ss sb sp past kept) (cut_c_town cI q lat und kpl len ncl spe sru sbe sen lets wrds nums tb tp tr knd sec brd rms std sn ss sb sp past kept tb tp tr knd sec brd rms).1 (cut_c_town cI q lat und kpl len ncl spe sru sbe sen lets wrds nums tb tp tr knd sec brd rms std sn ss sb sp past kept tb tp tr knd sec brd rms).2 rfl rfl rfl rfl hl.1 rfl (Nat.le_of_ble_eq_true rfl) dX6_person_49 (fun H locs hP hD hS => ?_)
      have hf : (f_X6_person tp knd sec std person what) = (f_X5_kindOf knd person) := ((if_neg c_5).trans (if_pos c_12_0))
      rw [hf] at hret
      exact hret _ _ _ _ hP hS dX6_person_52
    · skip
      by_cases c_12_1 : what = 1
      · skip
        refine lv_tableIn (off := 41) (tgt := 53) hx hb dX6_person_12 (by rw [c_12_1]; decide) (by rw [c_12_1]; decide) (by rw [c_12_1]; rfl) (by decide) ?_
        refine lv_aload_n hx hb dX6_person_53 rfl (lv_at hl 0 rfl) ?_
        refine va_get (D := D) (ci := 6) (v := .ref (q 8)) (C := RX6) (T := TX6) (N := 9) hx hb hts inlX6 hown hK hP 0 rfl rfl 1 (by decide) (kw hts kin_1 19 rfl) (fun _ h9 => h9) rfl dX6_person_54 ?_
        refine lv_iload_n hx hb dX6_person_57 rfl (lv_at hl 1 rfl) ?_
        refine kvi (As := [.int person]) (rest := []) (q0 := 0) (ci := 5) ⟨hx, hb, hml, hown, hts⟩ hP hK hD hS hA hE (k_X5_secretOf l D cI cZ adK adV q tb tp tr knd sec brd rms person) (kcv hts kM_X5_secretOf (kin_17 _ (List.mem_of_getElem? (i := 9) rfl)) ⟨rfl, rfl⟩ ⟨Nat.le_of_ble_eq_true rfl, Nat.le_of_ble_eq_true rfl⟩) kBl_G kOk_G (wC cI q lat und kpl len ncl spe sru sbe sen lets wrds nums tb tp tr knd sec brd rms std sn ss sb sp past kept) (cut_c_town cI q lat und kpl len ncl spe sru sbe sen lets wrds nums tb tp tr knd sec brd rms std sn ss sb sp past kept tb tp tr knd sec brd rms).1 (cut_c_town cI q lat und kpl len ncl spe sru sbe sen lets wrds nums tb tp tr knd sec brd rms std sn ss sb sp past kept tb tp tr knd sec brd rms).2 rfl rfl rfl rfl hl.1 rfl (Nat.le_of_ble_eq_true rfl) dX6_person_58 (fun H locs hP hD hS => ?_)
        have hf : (f_X6_person tp knd sec std person what) = (f_X5_secretOf sec person) := ((if_neg c_5).trans ((if_neg c_12_0).trans (if_pos c_12_1)))
        rw [hf] at hret
        exact hret _ _ _ _ hP hS dX6_person_61
      · skip
        by_cases c_12_2 : what = 2
        · skip
          refine lv_tableIn (off := 50) (tgt := 62) hx hb dX6_person_12 (by rw [c_12_2]; decide) (by rw [c_12_2]; decide) (by rw [c_12_2]; rfl) (by decide) ?_
          refine lv_aload_n hx hb dX6_person_62 rfl (lv_at hl 0 rfl) ?_
          refine va_get (D := D) (ci := 6) (v := .ref (q 17)) (C := RX6) (T := TX6) (N := 9) hx hb hts inlX6 hown hK hP 0 rfl rfl 2 (by decide) (kw hts kin_1 23 rfl) (fun _ h9 => h9) rfl dX6_person_63 ?_
          refine lv_iload_n hx hb dX6_person_66 rfl (lv_at hl 1 rfl) ?_
          refine kvi (As := [.int person]) (rest := []) (q0 := 0) (ci := 4) ⟨hx, hb, hml, hown, hts⟩ hP hK hD hS hA hE (k_X4_bareStrips l D cI cZ adK adV q std person) (kcv hts kM_X4_bareStrips (kin_17 _ (List.mem_of_getElem? (i := 13) rfl)) ⟨rfl, rfl⟩ ⟨Nat.le_of_ble_eq_true rfl, Nat.le_of_ble_eq_true rfl⟩) kBl_G kOk_G (wC cI q lat und kpl len ncl spe sru sbe sen lets wrds nums tb tp tr knd sec brd rms std sn ss sb sp past kept) (cut_c_std cI q lat und kpl len ncl spe sru sbe sen lets wrds nums tb tp tr knd sec brd rms std sn ss sb sp past kept std).1 (cut_c_std cI q lat und kpl len ncl spe sru sbe sen lets wrds nums tb tp tr knd sec brd rms std sn ss sb sp past kept std).2 rfl rfl rfl rfl hl.1 rfl (Nat.le_of_ble_eq_true rfl) dX6_person_67 (fun H locs hP hD hS => ?_)
          have hf : (f_X6_person tp knd sec std person what) = (f_X4_bareStrips std person) := ((if_neg c_5).trans ((if_neg c_12_0).trans ((if_neg c_12_1).trans (if_pos c_12_2))))
          rw [hf] at hret
          exact hret _ _ _ _ hP hS dX6_person_70
        · skip
          by_cases c_12_3 : what = 3
          · skip
            refine lv_tableIn (off := 59) (tgt := 71) hx hb dX6_person_12 (by rw [c_12_3]; decide) (by rw [c_12_3]; decide) (by rw [c_12_3]; rfl) (by decide) ?_
            refine lv_aload_n hx hb dX6_person_71 rfl (lv_at hl 0 rfl) ?_
            refine va_get (D := D) (ci := 6) (v := .ref (q 17)) (C := RX6) (T := TX6) (N := 9) hx hb hts inlX6 hown hK hP 0 rfl rfl 2 (by decide) (kw hts kin_1 23 rfl) (fun _ h9 => h9) rfl dX6_person_72 ?_
            refine lv_iload_n hx hb dX6_person_75 rfl (lv_at hl 1 rfl) ?_
            refine kvi (As := [.int person]) (rest := []) (q0 := 0) (ci := 4) ⟨hx, hb, hml, hown, hts⟩ hP hK hD hS hA hE (k_X4_beardsOf l D cI cZ adK adV q std person) (kcv hts kM_X4_beardsOf (kin_17 _ (List.mem_of_getElem? (i := 22) rfl)) ⟨rfl, rfl⟩ ⟨Nat.le_of_ble_eq_true rfl, Nat.le_of_ble_eq_true rfl⟩) kBl_G kOk_G (wC cI q lat und kpl len ncl spe sru sbe sen lets wrds nums tb tp tr knd sec brd rms std sn ss sb sp past kept) (cut_c_std cI q lat und kpl len ncl spe sru sbe sen lets wrds nums tb tp tr knd sec brd rms std sn ss sb sp past kept std).1 (cut_c_std cI q lat und kpl len ncl spe sru sbe sen lets wrds nums tb tp tr knd sec brd rms std sn ss sb sp past kept std).2 rfl rfl rfl rfl hl.1 rfl (Nat.le_of_ble_eq_true rfl) dX6_person_76 (fun H locs hP hD hS => ?_)
            have hf : (f_X6_person tp knd sec std person what) = (f_X4_beardsOf std person) := ((if_neg c_5).trans ((if_neg c_12_0).trans ((if_neg c_12_1).trans ((if_neg c_12_2).trans (if_pos c_12_3)))))
            rw [hf] at hret
            exact hret _ _ _ _ hP hS dX6_person_79
          · skip
            have htab : what.toInt < 0 ∨ 3 < what.toInt := by
              have a0 : what.toInt ≠ 0 := kneI c_12_0
              have a1 : what.toInt ≠ 1 := kneI c_12_1
              have a2 : what.toInt ≠ 2 := kneI c_12_2
              have a3 : what.toInt ≠ 3 := kneI c_12_3
              omega
            refine lv_tableOut (tgt := 80) hx hb dX6_person_12 htab (by decide) ?_
            refine lv_bipush (v := (-3)) hx hb dX6_person_80 (by decide) ?_
            have hf : (f_X6_person tp knd sec std person what) = (-3) := ((if_neg c_5).trans ((if_neg c_12_0).trans ((if_neg c_12_1).trans ((if_neg c_12_2).trans (if_neg c_12_3)))))
            rw [hf] at hret
            exact hret _ _ _ _ hP hS dX6_person_82
  · skip
    refine lv_bipush (v := (-2)) hx hb dX6_person_8 (by decide) ?_
    have hf : (f_X6_person tp knd sec std person what) = (-2) := (if_pos c_5)
    rw [hf] at hret
    exact hret _ _ _ _ hP hS dX6_person_10
