def f_X6_knows (tb : Int32) (tp : Int32) (tr : Int32) (rms : Nat → Int32) (std : Nat → Int32) (barber : Int32) (person : Int32) (what : Int32) : Int32 := if (f_X6_isBarber tb barber) = 0 then (-2) else (if (f_X6_isPerson tp person) = 0 then (-2) else (if what = 0 then (f_X4_stripsKnown std barber person) else (if what = 1 then (f_X4_partsKnown std barber person) else (if what = 2 then (f_X5_fitting tr rms (f_X4_stripsKnown std barber person) (f_X4_partsKnown std barber person)) else (-3)))))
abbrev rm_X6_knows : Room := { frames := 3, cells := 0, slots := 0, locals := 66 }
set_option maxRecDepth 100000 in
set_option maxHeartbeats 4000000 in
theorem k_X6_knows (l : Launch) (D : va_G) (cI cZ : ClassId) (adK adV : Nat → Nat) (q : Nat → Nat) (lat : Int32) (und : Int32) (kpl : Int32) (len : Int32) (ncl : Int32) (spe : Int32) (sru : Int32) (sbe : Int32) (sen : Int32) (lets : Nat → Int32) (wrds : Nat → Int32) (nums : Nat → Int32) (tb : Int32) (tp : Int32) (tr : Int32) (knd : Nat → Int32) (sec : Nat → Int32) (brd : Nat → Int32) (rms : Nat → Int32) (std : Nat → Int32) (sn : Int32) (ss : Nat → Int32) (sb : Nat → Int32) (sp : Nat → Int32) (past : Nat → Int32) (kept : Nat → Int32) (barber : Int32) (person : Int32) (what : Int32) : CI l D (kTy cI cZ) (kG adK adV) yX6_knows (.code yX6_knows cX6_knows 6 (some .int) :: wsL_law) rm_X6_knows [.ref (q 0), .int barber, .int person, .int what] (wC cI q lat und kpl len ncl spe sru sbe sen lets wrds nums tb tp tr knd sec brd rms std sn ss sb sp past kept) (wC cI q lat und kpl len ncl spe sru sbe sen lets wrds nums tb tp tr knd sec brd rms std sn ss sb sp past kept) (f_X6_knows tb tp tr rms std barber person what) := by
  refine CI.of (cc := cX6_knows) (maxL := 6) (ty := .int) (by decide) rfl (Nat.le_of_ble_eq_true rfl) rfl ?_
  intro p e s m args below meth c A Q ls hx hb hml hts0 hown hA hP hK hD hE hl hret
  have hts : ∀ w ∈ wsL_law, w.before args s = true := fun w h => hts0 w (List.mem_cons_of_mem _ h)
  clear hts0
  have hown : s.vm.findClass RX6 = some m.cls := hown
  have hl : lv_has ls 6 [(0, .ref (q 0)), (1, .int barber), (2, .int person), (3, .int what)] := hl
  have hS : va_S A s.heap s.heap [] := va_S.rf
  revert hP hS
  suffices hgo : ∀ (H : Heap) (locs : List Loc), va_P D vwCl (wC cI q lat und kpl len ncl spe sru sbe sen lets wrds nums tb tp tr knd sec brd rms std sn ss sb sp past kept) H → va_S A s.heap H locs → W p l e rm_X6_knows s m args below meth c H locs 0 0 Q (F0 m 0 ls []) from fun a b => hgo _ _ a b
  intro H locs hP hS
  refine lv_aload_n hx hb dX6_knows_0 rfl (lv_at hl 0 rfl) ?_
  refine lv_iload_n hx hb dX6_knows_1 rfl (lv_at hl 1 rfl) ?_
  refine kvi (As := [.int barber]) (rest := []) (q0 := 0) (ci := 6) ⟨hx, hb, hml, hown, hts⟩ hP hK hD hS hA hE (k_X6_isBarber l D cI cZ adK adV q lat und kpl len ncl spe sru sbe sen lets wrds nums tb tp tr knd sec brd rms std sn ss sb sp past kept barber) (kcv hts kM_X6_isBarber (kin_20 _ (List.mem_of_getElem? (i := 10) rfl)) ⟨rfl, rfl⟩ ⟨Nat.le_of_ble_eq_true rfl, Nat.le_of_ble_eq_true rfl⟩) kBl_G kOk_G (wC cI q lat und kpl len ncl spe sru sbe sen lets wrds nums tb tp tr knd sec brd rms std sn ss sb sp past kept) (cut_c_c cI q lat und kpl len ncl spe sru sbe sen lets wrds nums tb tp tr knd sec brd rms std sn ss sb sp past kept lat und kpl len ncl spe sru sbe sen lets wrds nums tb tp tr knd sec brd rms std sn ss sb sp past kept).1 (cut_c_c cI q lat und kpl len ncl spe sru sbe sen lets wrds nums tb tp tr knd sec brd rms std sn ss sb sp past kept lat und kpl len ncl spe sru sbe sen lets wrds nums tb tp tr knd sec brd rms std sn ss sb sp past kept).2 rfl rfl rfl rfl hl.1 rfl (Nat.le_of_ble_eq_true rfl) dX6_knows_2 (fun H locs hP hD hS => ?_)
  refine lv_if_eq (tgt := 16) hx hb dX6_knows_5 (by decide) (fun c_5 => ?_) (fun c_5 => ?_)
  · skip
    refine lv_bipush (v := (-2)) hx hb dX6_knows_16 (by decide) ?_
    have hf : (f_X6_knows tb tp tr rms std barber person what) = (-2) := (if_pos c_5)
    rw [hf] at hret
    exact hret _ _ _ _ hP hS dX6_knows_18
  · skip
    refine lv_aload_n hx hb dX6_knows_8 rfl (lv_at hl 0 rfl) ?_
    refine lv_iload_n hx hb dX6_knows_9 rfl (lv_at hl 2 rfl) ?_
    refine kvi (As := [.int person]) (rest := []) (q0 := 0) (ci := 6) ⟨hx, hb, hml, hown, hts⟩ hP hK hD hS hA hE (k_X6_isPerson l D cI cZ adK adV q lat und kpl len ncl spe sru sbe sen lets wrds nums tb tp tr knd sec brd rms std sn ss sb sp past kept person) (kcv hts kM_X6_isPerson (kin_17 _ (List.mem_of_getElem? (i := 1) rfl)) ⟨rfl, rfl⟩ ⟨Nat.le_of_ble_eq_true rfl, Nat.le_of_ble_eq_true rfl⟩) kBl_G kOk_G (wC cI q lat und kpl len ncl spe sru sbe sen lets wrds nums tb tp tr knd sec brd rms std sn ss sb sp past kept) (cut_c_c cI q lat und kpl len ncl spe sru sbe sen lets wrds nums tb tp tr knd sec brd rms std sn ss sb sp past kept lat und kpl len ncl spe sru sbe sen lets wrds nums tb tp tr knd sec brd rms std sn ss sb sp past kept).1 (cut_c_c cI q lat und kpl len ncl spe sru sbe sen lets wrds nums tb tp tr knd sec brd rms std sn ss sb sp past kept lat und kpl len ncl spe sru sbe sen lets wrds nums tb tp tr knd sec brd rms std sn ss sb sp past kept).2 rfl rfl rfl rfl hl.1 rfl (Nat.le_of_ble_eq_true rfl) dX6_knows_10 (fun H locs hP hD hS => ?_)
    refine lv_if_ne (tgt := 19) hx hb dX6_knows_13 (by decide) (fun c_13 => ?_) (fun c_13 => ?_)
    · skip
      refine lv_aload_n hx hb dX6_knows_19 rfl (lv_at hl 0 rfl) ?_
      refine va_get (D := D) (ci := 6) (v := .ref (q 17)) (C := RX6) (T := TX6) (N := 9) hx hb hts inlX6 hown hK hP 0 rfl rfl 2 (by decide) (kw hts kin_1 23 rfl) (fun _ h9 => h9) rfl dX6_knows_20 ?_
      refine lv_iload_n hx hb dX6_knows_23 rfl (lv_at hl 1 rfl) ?_
      refine lv_iload_n hx hb dX6_knows_24 rfl (lv_at hl 2 rfl) ?_
      refine kvi (As := [.int barber, .int person]) (rest := []) (q0 := 0) (ci := 4) ⟨hx, hb, hml, hown, hts⟩ hP hK hD hS hA hE (k_X4_stripsKnown l D cI cZ adK adV q std barber person) (kcv hts kM_X4_stripsKnown (kin_20 _ (List.mem_of_getElem? (i := 15) rfl)) ⟨rfl, rfl⟩ ⟨Nat.le_of_ble_eq_true rfl, Nat.le_of_ble_eq_true rfl⟩) kBl_G kOk_G (wC cI q lat und kpl len ncl spe sru sbe sen lets wrds nums tb tp tr knd sec brd rms std sn ss sb sp past kept) (cut_c_std cI q lat und kpl len ncl spe sru sbe sen lets wrds nums tb tp tr knd sec brd rms std sn ss sb sp past kept std).1 (cut_c_std cI q lat und kpl len ncl spe sru sbe sen lets wrds nums tb tp tr knd sec brd rms std sn ss sb sp past kept std).2 rfl rfl rfl rfl hl.1 rfl (Nat.le_of_ble_eq_true rfl) dX6_knows_25 (fun H locs hP hD hS => ?_)
      refine lv_istore (lv' := [(4, .int (f_X4_stripsKnown std barber person)), (0, .ref (q 0)), (1, .int barber), (2, .int person), (3, .int what)]) hx hb dX6_knows_28 hl (by decide) rfl (fun ls hl => ?_)
      refine lv_aload_n hx hb dX6_knows_30 rfl (lv_at hl 1 rfl) ?_
      refine va_get (D := D) (ci := 6) (v := .ref (q 17)) (C := RX6) (T := TX6) (N := 9) hx hb hts inlX6 hown hK hP 0 rfl rfl 2 (by decide) (kw hts kin_1 23 rfl) (fun _ h9 => h9) rfl dX6_knows_31 ?_
      refine lv_iload_n hx hb dX6_knows_34 rfl (lv_at hl 2 rfl) ?_
      refine lv_iload_n hx hb dX6_knows_35 rfl (lv_at hl 3 rfl) ?_
      refine kvi (As := [.int barber, .int person]) (rest := []) (q0 := 0) (ci := 4) ⟨hx, hb, hml, hown, hts⟩ hP hK hD hS hA hE (k_X4_partsKnown l D cI cZ adK adV q std barber person) (kcv hts kM_X4_partsKnown (kin_20 _ (List.mem_of_getElem? (i := 19) rfl)) ⟨rfl, rfl⟩ ⟨Nat.le_of_ble_eq_true rfl, Nat.le_of_ble_eq_true rfl⟩) kBl_G kOk_G (wC cI q lat und kpl len ncl spe sru sbe sen lets wrds nums tb tp tr knd sec brd rms std sn ss sb sp past kept) (cut_c_std cI q lat und kpl len ncl spe sru sbe sen lets wrds nums tb tp tr knd sec brd rms std sn ss sb sp past kept std).1 (cut_c_std cI q lat und kpl len ncl spe sru sbe sen lets wrds nums tb tp tr knd sec brd rms std sn ss sb sp past kept std).2 rfl rfl rfl rfl hl.1 rfl (Nat.le_of_ble_eq_true rfl) dX6_knows_36 (fun H locs hP hD hS => ?_)
      refine lv_istore (lv' := [(5, .int (f_X4_partsKnown std barber person)), (4, .int (f_X4_stripsKnown std barber person)), (0, .ref (q 0)), (1, .int barber), (2, .int person), (3, .int what)]) hx hb dX6_knows_39 hl (by decide) rfl (fun ls hl => ?_)
      refine lv_iload_n hx hb dX6_knows_41 rfl (lv_at hl 5 rfl) ?_
      by_cases c_42_0 : what = 0
      · skip
        refine lv_tableIn (off := 26) (tgt := 68) hx hb dX6_knows_42 (by rw [c_42_0]; decide) (by rw [c_42_0]; decide) (by rw [c_42_0]; rfl) (by decide) ?_
        refine lv_iload hx hb dX6_knows_68 (lv_at hl 1 rfl) ?_
        have hf : (f_X6_knows tb tp tr rms std barber person what) = (f_X4_stripsKnown std barber person) := ((if_neg c_5).trans ((if_neg c_13).trans (if_pos c_42_0)))
        rw [hf] at hret
        exact hret _ _ _ _ hP hS dX6_knows_70
      · skip
        by_cases c_42_1 : what = 1
        · skip
          refine lv_tableIn (off := 29) (tgt := 71) hx hb dX6_knows_42 (by rw [c_42_1]; decide) (by rw [c_42_1]; decide) (by rw [c_42_1]; rfl) (by decide) ?_
          refine lv_iload hx hb dX6_knows_71 (lv_at hl 0 rfl) ?_
          have hf : (f_X6_knows tb tp tr rms std barber person what) = (f_X4_partsKnown std barber person) := ((if_neg c_5).trans ((if_neg c_13).trans ((if_neg c_42_0).trans (if_pos c_42_1))))
          rw [hf] at hret
          exact hret _ _ _ _ hP hS dX6_knows_73
        · skip
          by_cases c_42_2 : what = 2
          · skip
            refine lv_tableIn (off := 32) (tgt := 74) hx hb dX6_knows_42 (by rw [c_42_2]; decide) (by rw [c_42_2]; decide) (by rw [c_42_2]; rfl) (by decide) ?_
            refine lv_aload_n hx hb dX6_knows_74 rfl (lv_at hl 2 rfl) ?_
            refine va_get (D := D) (ci := 6) (v := .ref (q 8)) (C := RX6) (T := TX6) (N := 9) hx hb hts inlX6 hown hK hP 0 rfl rfl 1 (by decide) (kw hts kin_1 19 rfl) (fun _ h9 => h9) rfl dX6_knows_75 ?_
            refine lv_iload hx hb dX6_knows_78 (lv_at hl 1 rfl) ?_
            refine lv_iload hx hb dX6_knows_80 (lv_at hl 0 rfl) ?_
            refine kvi (As := [.int (f_X4_stripsKnown std barber person), .int (f_X4_partsKnown std barber person)]) (rest := []) (q0 := 0) (ci := 5) ⟨hx, hb, hml, hown, hts⟩ hP hK hD hS hA hE (k_X5_fitting l D cI cZ adK adV q tb tp tr knd sec brd rms (f_X4_stripsKnown std barber person) (f_X4_partsKnown std barber person)) (kcv hts kM_X5_fitting (kin_20 _ (List.mem_of_getElem? (i := 23) rfl)) ⟨rfl, rfl⟩ ⟨Nat.le_of_ble_eq_true rfl, Nat.le_of_ble_eq_true rfl⟩) kBl_G kOk_G (wC cI q lat und kpl len ncl spe sru sbe sen lets wrds nums tb tp tr knd sec brd rms std sn ss sb sp past kept) (cut_c_town cI q lat und kpl len ncl spe sru sbe sen lets wrds nums tb tp tr knd sec brd rms std sn ss sb sp past kept tb tp tr knd sec brd rms).1 (cut_c_town cI q lat und kpl len ncl spe sru sbe sen lets wrds nums tb tp tr knd sec brd rms std sn ss sb sp past kept tb tp tr knd sec brd rms).2 rfl rfl rfl rfl hl.1 rfl (Nat.le_of_ble_eq_true rfl) dX6_knows_82 (fun H locs hP hD hS => ?_)
            have hf : (f_X6_knows tb tp tr rms std barber person what) = (f_X5_fitting tr rms (f_X4_stripsKnown std barber person) (f_X4_partsKnown std barber person)) := ((if_neg c_5).trans ((if_neg c_13).trans ((if_neg c_42_0).trans ((if_neg c_42_1).trans (if_pos c_42_2)))))
            rw [hf] at hret
            exact hret _ _ _ _ hP hS dX6_knows_85
          · skip
            have htab : what.toInt < 0 ∨ 2 < what.toInt := by
              have a0 : what.toInt ≠ 0 := kneI c_42_0
              have a1 : what.toInt ≠ 1 := kneI c_42_1
              have a2 : what.toInt ≠ 2 := kneI c_42_2
              omega
            refine lv_tableOut (tgt := 86) hx hb dX6_knows_42 htab (by decide) ?_
            refine lv_bipush (v := (-3)) hx hb dX6_knows_86 (by decide) ?_
            have hf : (f_X6_knows tb tp tr rms std barber person what) = (-3) := ((if_neg c_5).trans ((if_neg c_13).trans ((if_neg c_42_0).trans ((if_neg c_42_1).trans (if_neg c_42_2)))))
            rw [hf] at hret
            exact hret _ _ _ _ hP hS dX6_knows_88
    · skip
      refine lv_bipush (v := (-2)) hx hb dX6_knows_16 (by decide) ?_
      have hf : (f_X6_knows tb tp tr rms std barber person what) = (-2) := ((if_neg c_5).trans (if_pos c_13))
      rw [hf] at hret
      exact hret _ _ _ _ hP hS dX6_knows_18
