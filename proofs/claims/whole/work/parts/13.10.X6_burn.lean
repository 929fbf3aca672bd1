def f_X6_burn (lat : Int32) (und : Int32) (tb : Int32) (tp : Int32) (std : Nat → Int32) (past : Nat → Int32) (barber : Int32) (person : Int32) : Int32 × Int32 × Int32 × (Nat → Int32) × (Nat → Int32) := if (f_X6_isBarber tb barber) = 0 then ((-2), lat, und, std, past) else (if (f_X6_isPerson tp person) = 0 then ((-2), lat, und, std, past) else (if (f_J6_bitCount_0f7a4 (f_X4_stripsKnown std barber person)) = 0 then ((-4), lat, und, std, past) else ((f_J6_bitCount_0f7a4 (f_X4_stripsKnown std barber person)), (f_X6_rememberForUndo lat und std past).1, (f_X6_rememberForUndo lat und std past).2.1, (f_X4_setKnown std barber person 0 0), (f_X6_rememberForUndo lat und std past).2.2)))
abbrev rm_X6_burn : Room := { frames := 4, cells := 0, slots := 0, locals := 126 }
set_option maxRecDepth 100000 in
set_option maxHeartbeats 4000000 in
theorem k_X6_burn (l : Launch) (D : va_G) (cI cZ : ClassId) (adK adV : Nat → Nat) (q : Nat → Nat) (lat : Int32) (und : Int32) (kpl : Int32) (len : Int32) (ncl : Int32) (spe : Int32) (sru : Int32) (sbe : Int32) (sen : Int32) (lets : Nat → Int32) (wrds : Nat → Int32) (nums : Nat → Int32) (tb : Int32) (tp : Int32) (tr : Int32) (knd : Nat → Int32) (sec : Nat → Int32) (brd : Nat → Int32) (rms : Nat → Int32) (std : Nat → Int32) (sn : Int32) (ss : Nat → Int32) (sb : Nat → Int32) (sp : Nat → Int32) (past : Nat → Int32) (kept : Nat → Int32) (barber : Int32) (person : Int32) : CI l D (kTy cI cZ) (kG adK adV) yX6_burn (.code yX6_burn cX6_burn 4 (some .int) :: wsL_law) rm_X6_burn [.ref (q 0), .int barber, .int person] (wC cI q lat und kpl len ncl spe sru sbe sen lets wrds nums tb tp tr knd sec brd rms std sn ss sb sp past kept) (wC cI q ((f_X6_burn lat und tb tp std past barber person).2.1) ((f_X6_burn lat und tb tp std past barber person).2.2.1) kpl len ncl spe sru sbe sen lets wrds nums tb tp tr knd sec brd rms ((f_X6_burn lat und tb tp std past barber person).2.2.2.1) sn ss sb sp ((f_X6_burn lat und tb tp std past barber person).2.2.2.2) kept) ((f_X6_burn lat und tb tp std past barber person).1) := by
  refine CI.of (cc := cX6_burn) (maxL := 4) (ty := .int) (by decide) rfl (Nat.le_of_ble_eq_true rfl) rfl ?_
  intro p e s m args below meth c A Q ls hx hb hml hts0 hown hA hP hK hD hE hl hret
  have hts : ∀ w ∈ wsL_law, w.before args s = true := fun w h => hts0 w (List.mem_cons_of_mem _ h)
  clear hts0
  have hown : s.vm.findClass RX6 = some m.cls := hown
  have hl : lv_has ls 4 [(0, .ref (q 0)), (1, .int barber), (2, .int person)] := hl
  have hS : va_S A s.heap s.heap [] := va_S.rf
  revert hP hS
  suffices hgo : ∀ (H : Heap) (locs : List Loc), va_P D vwCl (wC cI q lat und kpl len ncl spe sru sbe sen lets wrds nums tb tp tr knd sec brd rms std sn ss sb sp past kept) H → va_S A s.heap H locs → W p l e rm_X6_burn s m args below meth c H locs 0 0 Q (F0 m 0 ls []) from fun a b => hgo _ _ a b
  intro H locs hP hS
  refine lv_aload_n hx hb dX6_burn_0 rfl (lv_at hl 0 rfl) ?_
  refine lv_iload_n hx hb dX6_burn_1 rfl (lv_at hl 1 rfl) ?_
  refine kvi (As := [.int barber]) (rest := []) (q0 := 0) (ci := 6) ⟨hx, hb, hml, hown, hts⟩ hP hK hD hS hA hE (k_X6_isBarber l D cI cZ adK adV q lat und kpl len ncl spe sru sbe sen lets wrds nums tb tp tr knd sec brd rms std sn ss sb sp past kept barber) (kcv hts kM_X6_isBarber (kin_20 _ (List.mem_of_getElem? (i := 10) rfl)) ⟨rfl, rfl⟩ ⟨Nat.le_of_ble_eq_true rfl, Nat.le_of_ble_eq_true rfl⟩) kBl_G kOk_G (wC cI q lat und kpl len ncl spe sru sbe sen lets wrds nums tb tp tr knd sec brd rms std sn ss sb sp past kept) (cut_c_c cI q lat und kpl len ncl spe sru sbe sen lets wrds nums tb tp tr knd sec brd rms std sn ss sb sp past kept lat und kpl len ncl spe sru sbe sen lets wrds nums tb tp tr knd sec brd rms std sn ss sb sp past kept).1 (cut_c_c cI q lat und kpl len ncl spe sru sbe sen lets wrds nums tb tp tr knd sec brd rms std sn ss sb sp past kept lat und kpl len ncl spe sru sbe sen lets wrds nums tb tp tr knd sec brd rms std sn ss sb sp past kept).2 rfl rfl rfl rfl hl.1 rfl (Nat.le_of_ble_eq_true rfl) dX6_burn_2 (fun H locs hP hD hS => ?_)
  refine lv_if_eq (tgt := 16) hx hb dX6_burn_5 (by decide) (fun c_5 => ?_) (fun c_5 => ?_)
  · skip
    refine lv_bipush (v := (-2)) hx hb dX6_burn_16 (by decide) ?_
    have hf : (f_X6_burn lat und tb tp std past barber person) = ((-2), lat, und, std, past) := (if_pos c_5)
    rw [hf] at hret
    dsimp only at hret
    exact hret _ _ _ _ hP hS dX6_burn_18
  · skip
    refine lv_aload_n hx hb dX6_burn_8 rfl (lv_at hl 0 rfl) ?_
    refine lv_iload_n hx hb dX6_burn_9 rfl (lv_at hl 2 rfl) ?_
    refine kvi (As := [.int person]) (rest := []) (q0 := 0) (ci := 6) ⟨hx, hb, hml, hown, hts⟩ hP hK hD hS hA hE (k_X6_isPerson l D cI cZ adK adV q lat und kpl len ncl spe sru sbe sen lets wrds nums tb tp tr knd sec brd rms std sn ss sb sp past kept person) (kcv hts kM_X6_isPerson (kin_17 _ (List.mem_of_getElem? (i := 1) rfl)) ⟨rfl, rfl⟩ ⟨Nat.le_of_ble_eq_true rfl, Nat.le_of_ble_eq_true rfl⟩) kBl_G kOk_G (wC cI q lat und kpl len ncl spe sru sbe sen lets wrds nums tb tp tr knd sec brd rms std sn ss sb sp past kept) (cut_c_c cI q lat und kpl len ncl spe sru sbe sen lets wrds nums tb tp tr knd sec brd rms std sn ss sb sp past kept lat und kpl len ncl spe sru sbe sen lets wrds nums tb tp tr knd sec brd rms std sn ss sb sp past kept).1 (cut_c_c cI q lat und kpl len ncl spe sru sbe sen lets wrds nums tb tp tr knd sec brd rms std sn ss sb sp past kept lat und kpl len ncl spe sru sbe sen lets wrds nums tb tp tr knd sec brd rms std sn ss sb sp past kept).2 rfl rfl rfl rfl hl.1 rfl (Nat.le_of_ble_eq_true rfl) dX6_burn_10 (fun H locs hP hD hS => ?_)
    refine lv_if_ne (tgt := 19) hx hb dX6_burn_13 (by decide) (fun c_13 => ?_) (fun c_13 => ?_)
    · skip
      refine lv_aload_n hx hb dX6_burn_19 rfl (lv_at hl 0 rfl) ?_
      refine va_get (D := D) (ci := 6) (v := .ref (q 17)) (C := RX6) (T := TX6) (N := 9) hx hb hts inlX6 hown hK hP 0 rfl rfl 2 (by decide) (kw hts kin_1 23 rfl) (fun _ h9 => h9) rfl dX6_burn_20 ?_
      refine lv_iload_n hx hb dX6_burn_23 rfl (lv_at hl 1 rfl) ?_
      refine lv_iload_n hx hb dX6_burn_24 rfl (lv_at hl 2 rfl) ?_
      refine kvi (As := [.int barber, .int person]) (rest := []) (q0 := 0) (ci := 4) ⟨hx, hb, hml, hown, hts⟩ hP hK hD hS hA hE (k_X4_stripsKnown l D cI cZ adK adV q std barber person) (kcv hts kM_X4_stripsKnown (kin_20 _ (List.mem_of_getElem? (i := 15) rfl)) ⟨rfl, rfl⟩ ⟨Nat.le_of_ble_eq_true rfl, Nat.le_of_ble_eq_true rfl⟩) kBl_G kOk_G (wC cI q lat und kpl len ncl spe sru sbe sen lets wrds nums tb tp tr knd sec brd rms std sn ss sb sp past kept) (cut_c_std cI q lat und kpl len ncl spe sru sbe sen lets wrds nums tb tp tr knd sec brd rms std sn ss sb sp past kept std).1 (cut_c_std cI q lat und kpl len ncl spe sru sbe sen lets wrds nums tb tp tr knd sec brd rms std sn ss sb sp past kept std).2 rfl rfl rfl rfl hl.1 rfl (Nat.le_of_ble_eq_true rfl) dX6_burn_25 (fun H locs hP hD hS => ?_)
      refine ksi (As := [.int (f_X4_stripsKnown std barber person)]) (rest := []) ⟨hx, hb, hml, hown, hts⟩ hP hK hD hS hA hE (k_J6_bitCount_0f7a4 l D cI cZ adK adV (f_X4_stripsKnown std barber person)) (kcs hts kM_J6_bitCount_0f7a4 (kin_26 _ (List.mem_of_getElem? (i := 13) rfl)) ⟨rfl, rfl⟩ ⟨Nat.le_of_ble_eq_true rfl, Nat.le_of_ble_eq_true rfl⟩) kBl_G kOk_G rfl hl.1 rfl (Nat.le_of_ble_eq_true rfl) dX6_burn_28 (fun H locs hP hD hS => ?_)
      refine lv_istore_n (lv' := [(3, .int (f_J6_bitCount_0f7a4 (f_X4_stripsKnown std barber person))), (0, .ref (q 0)), (1, .int barber), (2, .int person)]) hx hb dX6_burn_31 rfl hl (by decide) rfl (fun ls hl => ?_)
      refine lv_iload_n hx hb dX6_burn_32 rfl (lv_at hl 0 rfl) ?_
      refine lv_if_ne (tgt := 39) hx hb dX6_burn_33 (by decide) (fun c_33 => ?_) (fun c_33 => ?_)
      · skip
        refine lv_aload_n hx hb dX6_burn_39 rfl (lv_at hl 1 rfl) ?_
        refine kvv (As := []) (rest := []) (q0 := 0) (ci := 6) ⟨hx, hb, hml, hown, hts⟩ hP hK hD hS hA hE (k_X6_rememberForUndo l D cI cZ adK adV q lat und kpl len ncl spe sru sbe sen lets wrds nums tb tp tr knd sec brd rms std sn ss sb sp past kept) (kcv hts kM_X6_rememberForUndo (kin_23 _ (List.mem_of_getElem? (i := 4) rfl)) ⟨rfl, rfl⟩ ⟨Nat.le_of_ble_eq_true rfl, Nat.le_of_ble_eq_true rfl⟩) kBl_G kOk_G (wC cI q ((f_X6_rememberForUndo lat und std past).1) ((f_X6_rememberForUndo lat und std past).2.1) kpl len ncl spe sru sbe sen lets wrds nums tb tp tr knd sec brd rms std sn ss sb sp ((f_X6_rememberForUndo lat und std past).2.2) kept) (cut_c_c cI q lat und kpl len ncl spe sru sbe sen lets wrds nums tb tp tr knd sec brd rms std sn ss sb sp past kept ((f_X6_rememberForUndo lat und std past).1) ((f_X6_rememberForUndo lat und std past).2.1) kpl len ncl spe sru sbe sen lets wrds nums tb tp tr knd sec brd rms std sn ss sb sp ((f_X6_rememberForUndo lat und std past).2.2) kept).1 (cut_c_c cI q lat und kpl len ncl spe sru sbe sen lets wrds nums tb tp tr knd sec brd rms std sn ss sb sp past kept ((f_X6_rememberForUndo lat und std past).1) ((f_X6_rememberForUndo lat und std past).2.1) kpl len ncl spe sru sbe sen lets wrds nums tb tp tr knd sec brd rms std sn ss sb sp ((f_X6_rememberForUndo lat und std past).2.2) kept).2 rfl rfl rfl rfl hl.1 rfl (Nat.le_of_ble_eq_true rfl) dX6_burn_40 (fun H locs hP hD hS => ?_)
        refine lv_aload_n hx hb dX6_burn_43 rfl (lv_at hl 1 rfl) ?_
        refine va_get (D := D) (ci := 6) (v := .ref (q 17)) (C := RX6) (T := TX6) (N := 9) hx hb hts inlX6 hown hK hP 0 rfl rfl 2 (by decide) (kw hts kin_1 23 rfl) (fun _ h9 => h9) rfl dX6_burn_44 ?_
        refine lv_iload_n hx hb dX6_burn_47 rfl (lv_at hl 2 rfl) ?_
        refine lv_iload_n hx hb dX6_burn_48 rfl (lv_at hl 3 rfl) ?_
        refine lv_iconst (v := 0) hx hb dX6_burn_49 (by decide) ?_
        refine lv_iconst (v := 0) hx hb dX6_burn_50 (by decide) ?_
        refine kvv (As := [.int barber, .int person, .int 0, .int 0]) (rest := []) (q0 := 0) (ci := 4) ⟨hx, hb, hml, hown, hts⟩ hP hK hD hS hA hE (k_X4_setKnown l D cI cZ adK adV q std barber person 0 0) (kcv hts kM_X4_setKnown (kin_26 _ (List.mem_of_getElem? (i := 20) rfl)) ⟨rfl, rfl⟩ ⟨Nat.le_of_ble_eq_true rfl, Nat.le_of_ble_eq_true rfl⟩) kBl_G kOk_G (wC cI q ((f_X6_rememberForUndo lat und std past).1) ((f_X6_rememberForUndo lat und std past).2.1) kpl len ncl spe sru sbe sen lets wrds nums tb tp tr knd sec brd rms (f_X4_setKnown std barber person 0 0) sn ss sb sp ((f_X6_rememberForUndo lat und std past).2.2) kept) (cut_c_std cI q ((f_X6_rememberForUndo lat und std past).1) ((f_X6_rememberForUndo lat und std past).2.1) kpl len ncl spe sru sbe sen lets wrds nums tb tp tr knd sec brd rms std sn ss sb sp ((f_X6_rememberForUndo lat und std past).2.2) kept (f_X4_setKnown std barber person 0 0)).1 (cut_c_std cI q ((f_X6_rememberForUndo lat und std past).1) ((f_X6_rememberForUndo lat und std past).2.1) kpl len ncl spe sru sbe sen lets wrds nums tb tp tr knd sec brd rms std sn ss sb sp ((f_X6_rememberForUndo lat und std past).2.2) kept (f_X4_setKnown std barber person 0 0)).2 rfl rfl rfl rfl hl.1 rfl (Nat.le_of_ble_eq_true rfl) dX6_burn_51 (fun H locs hP hD hS => ?_)
        refine lv_iload_n hx hb dX6_burn_54 rfl (lv_at hl 0 rfl) ?_
        have hf : (f_X6_burn lat und tb tp std past barber person) = ((f_J6_bitCount_0f7a4 (f_X4_stripsKnown std barber person)), (f_X6_rememberForUndo lat und std past).1, (f_X6_rememberForUndo lat und std past).2.1, (f_X4_setKnown std barber person 0 0), (f_X6_rememberForUndo lat und std past).2.2) := ((if_neg c_5).trans ((if_neg c_13).trans (if_neg c_33)))
        rw [hf] at hret
        dsimp only at hret
        exact hret _ _ _ _ hP hS dX6_burn_55
      · skip
        refine lv_bipush (v := (-4)) hx hb dX6_burn_36 (by decide) ?_
        have hf : (f_X6_burn lat und tb tp std past barber person) = ((-4), lat, und, std, past) := ((if_neg c_5).trans ((if_neg c_13).trans (if_pos c_33)))
        rw [hf] at hret
        dsimp only at hret
        exact hret _ _ _ _ hP hS dX6_burn_38
    · skip
      refine lv_bipush (v := (-2)) hx hb dX6_burn_16 (by decide) ?_
      have hf : (f_X6_burn lat und tb tp std past barber person) = ((-2), lat, und, std, past) := ((if_neg c_5).trans (if_pos c_13))
      rw [hf] at hret
      dsimp only at hret
      exact hret _ _ _ _ hP hS dX6_burn_18
