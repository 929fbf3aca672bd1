def v_X6_next_91_0 (tr : Int32) (rms : Nat → Int32) (std : Nat → Int32) (barber : Int32) (person : Int32) (i : Nat) (x65_5 : Int32) (x65_6 : Int32) : Int32 := if (f_X6_has (f_X4_stripsKnown std barber person) (nI i)) = 0 then (if x65_6 ≤ (f_X5_mostAlike tr rms (f_X5_fitting tr rms (f_X4_stripsKnown std barber person) (f_X4_partsKnown std barber person)) (nI i)) then x65_5 else (nI i)) else x65_5
def v_X6_next_91_1 (tr : Int32) (rms : Nat → Int32) (std : Nat → Int32) (barber : Int32) (person : Int32) (i : Nat) (x65_6 : Int32) : Int32 := if (f_X6_has (f_X4_stripsKnown std barber person) (nI i)) = 0 then (if x65_6 ≤ (f_X5_mostAlike tr rms (f_X5_fitting tr rms (f_X4_stripsKnown std barber person) (f_X4_partsKnown std barber person)) (nI i)) then x65_6 else (f_X5_mostAlike tr rms (f_X5_fitting tr rms (f_X4_stripsKnown std barber person) (f_X4_partsKnown std barber person)) (nI i))) else x65_6
def nx_X6_next_65 (tr : Int32) (rms : Nat → Int32) (std : Nat → Int32) (barber : Int32) (person : Int32) (i : Nat) (x65_5 : Int32) (x65_6 : Int32) : Int32 × Int32 := ((v_X6_next_91_0 tr rms std barber person i x65_5 x65_6), (v_X6_next_91_1 tr rms std barber person i x65_6))
def x_X6_next_65 (tr : Int32) (rms : Nat → Int32) (std : Nat → Int32) (barber : Int32) (person : Int32) : Int32 × Int32 := lp (fun iz z => nx_X6_next_65 tr rms std barber person iz z.1 z.2) ((-1), 9) 6
def f_X6_next (tb : Int32) (tp : Int32) (tr : Int32) (rms : Nat → Int32) (std : Nat → Int32) (barber : Int32) (person : Int32) : Int32 := if (f_X6_isBarber tb barber) = 0 then (-2) else (if (f_X6_isPerson tp person) = 0 then (-2) else (if (f_X5_fitting tr rms (f_X4_stripsKnown std barber person) (f_X4_partsKnown std barber person)) = 0 then (-1) else ((x_X6_next_65 tr rms std barber person).1)))
abbrev rm_X6_next : Room := { frames := 3, cells := 0, slots := 0, locals := 66 }
set_option maxRecDepth 100000 in
set_option maxHeartbeats 4000000 in
theorem k_X6_next (l : Launch) (D : va_G) (cI cZ : ClassId) (adK adV : Nat → Nat) (q : Nat → Nat) (lat : Int32) (und : Int32) (kpl : Int32) (len : Int32) (ncl : Int32) (spe : Int32) (sru : Int32) (sbe : Int32) (sen : Int32) (lets : Nat → Int32) (wrds : Nat → Int32) (nums : Nat → Int32) (tb : Int32) (tp : Int32) (tr : Int32) (knd : Nat → Int32) (sec : Nat → Int32) (brd : Nat → Int32) (rms : Nat → Int32) (std : Nat → Int32) (sn : Int32) (ss : Nat → Int32) (sb : Nat → Int32) (sp : Nat → Int32) (past : Nat → Int32) (kept : Nat → Int32) (barber : Int32) (person : Int32) : CI l D (kTy cI cZ) (kG adK adV) yX6_next (.code yX6_next cX6_next 9 (some .int) :: wsL_law) rm_X6_next [.ref (q 0), .int barber, .int person] (wC cI q lat und kpl len ncl spe sru sbe sen lets wrds nums tb tp tr knd sec brd rms std sn ss sb sp past kept) (wC cI q lat und kpl len ncl spe sru sbe sen lets wrds nums tb tp tr knd sec brd rms std sn ss sb sp past kept) (f_X6_next tb tp tr rms std barber person) := by
  refine CI.of (cc := cX6_next) (maxL := 9) (ty := .int) (by decide) rfl (Nat.le_of_ble_eq_true rfl) rfl ?_
  intro p e s m args below meth c A Q ls hx hb hml hts0 hown hA hP hK hD hE hl hret
  have hts : ∀ w ∈ wsL_law, w.before args s = true := fun w h => hts0 w (List.mem_cons_of_mem _ h)
  clear hts0
  have hown : s.vm.findClass RX6 = some m.cls := hown
  have hl : lv_has ls 9 [(0, .ref (q 0)), (1, .int barber), (2, .int person)] := hl
  have hS : va_S A s.heap s.heap [] := va_S.rf
  revert hP hS
  suffices hgo : ∀ (H : Heap) (locs : List Loc), va_P D vwCl (wC cI q lat und kpl len ncl spe sru sbe sen lets wrds nums tb tp tr knd sec brd rms std sn ss sb sp past kept) H → va_S A s.heap H locs → W p l e rm_X6_next s m args below meth c H locs 0 0 Q (F0 m 0 ls []) from fun a b => hgo _ _ a b
  intro H locs hP hS
  refine lv_aload_n hx hb dX6_next_0 rfl (lv_at hl 0 rfl) ?_
  refine lv_iload_n hx hb dX6_next_1 rfl (lv_at hl 1 rfl) ?_
  refine kvi (As := [.int barber]) (rest := []) (q0 := 0) (ci := 6) ⟨hx, hb, hml, hown, hts⟩ hP hK hD hS hA hE (k_X6_isBarber l D cI cZ adK adV q lat und kpl len ncl spe sru sbe sen lets wrds nums tb tp tr knd sec brd rms std sn ss sb sp past kept barber) (kcv hts kM_X6_isBarber (kin_20 _ (List.mem_of_getElem? (i := 10) rfl)) ⟨rfl, rfl⟩ ⟨Nat.le_of_ble_eq_true rfl, Nat.le_of_ble_eq_true rfl⟩) kBl_G kOk_G (wC cI q lat und kpl len ncl spe sru sbe sen lets wrds nums tb tp tr knd sec brd rms std sn ss sb sp past kept) (cut_c_c cI q lat und kpl len ncl spe sru sbe sen lets wrds nums tb tp tr knd sec brd rms std sn ss sb sp past kept lat und kpl len ncl spe sru sbe sen lets wrds nums tb tp tr knd sec brd rms std sn ss sb sp past kept).1 (cut_c_c cI q lat und kpl len ncl spe sru sbe sen lets wrds nums tb tp tr knd sec brd rms std sn ss sb sp past kept lat und kpl len ncl spe sru sbe sen lets wrds nums tb tp tr knd sec brd rms std sn ss sb sp past kept).2 rfl rfl rfl rfl hl.1 rfl (Nat.le_of_ble_eq_true rfl) dX6_next_2 (fun H locs hP hD hS => ?_)
  refine lv_if_eq (tgt := 16) hx hb dX6_next_5 (by decide) (fun c_5 => ?_) (fun c_5 => ?_)
  · skip
    refine lv_bipush (v := (-2)) hx hb dX6_next_16 (by decide) ?_
    have hf : (f_X6_next tb tp tr rms std barber person) = (-2) := (if_pos c_5)
    rw [hf] at hret
    exact hret _ _ _ _ hP hS dX6_next_18
  · skip
    refine lv_aload_n hx hb dX6_next_8 rfl (lv_at hl 0 rfl) ?_
    refine lv_iload_n hx hb dX6_next_9 rfl (lv_at hl 2 rfl) ?_
    refine kvi (As := [.int person]) (rest := []) (q0 := 0) (ci := 6) ⟨hx, hb, hml, hown, hts⟩ hP hK hD hS hA hE (k_X6_isPerson l D cI cZ adK adV q lat und kpl len ncl spe sru sbe sen lets wrds nums tb tp tr knd sec brd rms std sn ss sb sp past kept person) (kcv hts kM_X6_isPerson (kin_17 _ (List.mem_of_getElem? (i := 1) rfl)) ⟨rfl, rfl⟩ ⟨Nat.le_of_ble_eq_true rfl, Nat.le_of_ble_eq_true rfl⟩) kBl_G kOk_G (wC cI q lat und kpl len ncl spe sru sbe sen lets wrds nums tb tp tr knd sec brd rms std sn ss sb sp past kept) (cut_c_c cI q lat und kpl len ncl spe sru sbe sen lets wrds nums tb tp tr knd sec brd rms std sn ss sb sp past kept lat und kpl len ncl spe sru sbe sen lets wrds nums tb tp tr knd sec brd rms std sn ss sb sp past kept).1 (cut_c_c cI q lat und kpl len ncl spe sru sbe sen lets wrds nums tb tp tr knd sec brd rms std sn ss sb sp past kept lat und kpl len ncl spe sru sbe sen lets wrds nums tb tp tr knd sec brd rms std sn ss sb sp past kept).2 rfl rfl rfl rfl hl.1 rfl (Nat.le_of_ble_eq_true rfl) dX6_next_10 (fun H locs hP hD hS => ?_)
    refine lv_if_ne (tgt := 19) hx hb dX6_next_13 (by decide) (fun c_13 => ?_) (fun c_13 => ?_)
    · skip
      refine lv_aload_n hx hb dX6_next_19 rfl (lv_at hl 0 rfl) ?_
      refine va_get (D := D) (ci := 6) (v := .ref (q 17)) (C := RX6) (T := TX6) (N := 9) hx hb hts inlX6 hown hK hP 0 rfl rfl 2 (by decide) (kw hts kin_1 23 rfl) (fun _ h9 => h9) rfl dX6_next_20 ?_
      refine lv_iload_n hx hb dX6_next_23 rfl (lv_at hl 1 rfl) ?_
      refine lv_iload_n hx hb dX6_next_24 rfl (lv_at hl 2 rfl) ?_
      refine kvi (As := [.int barber, .int person]) (rest := []) (q0 := 0) (ci := 4) ⟨hx, hb, hml, hown, hts⟩ hP hK hD hS hA hE (k_X4_stripsKnown l D cI cZ adK adV q std barber person) (kcv hts kM_X4_stripsKnown (kin_20 _ (List.mem_of_getElem? (i := 15) rfl)) ⟨rfl, rfl⟩ ⟨Nat.le_of_ble_eq_true rfl, Nat.le_of_ble_eq_true rfl⟩) kBl_G kOk_G (wC cI q lat und kpl len ncl spe sru sbe sen lets wrds nums tb tp tr knd sec brd rms std sn ss sb sp past kept) (cut_c_std cI q lat und kpl len ncl spe sru sbe sen lets wrds nums tb tp tr knd sec brd rms std sn ss sb sp past kept std).1 (cut_c_std cI q lat und kpl len ncl spe sru sbe sen lets wrds nums tb tp tr knd sec brd rms std sn ss sb sp past kept std).2 rfl rfl rfl rfl hl.1 rfl (Nat.le_of_ble_eq_true rfl) dX6_next_25 (fun H locs hP hD hS => ?_)
      refine lv_istore_n (lv' := [(3, .int (f_X4_stripsKnown std barber person)), (0, .ref (q 0)), (1, .int barber), (2, .int person)]) hx hb dX6_next_28 rfl hl (by decide) rfl (fun ls hl => ?_)
      refine lv_aload_n hx hb dX6_next_29 rfl (lv_at hl 1 rfl) ?_
      refine va_get (D := D) (ci := 6) (v := .ref (q 8)) (C := RX6) (T := TX6) (N := 9) hx hb hts inlX6 hown hK hP 0 rfl rfl 1 (by decide) (kw hts kin_1 19 rfl) (fun _ h9 => h9) rfl dX6_next_30 ?_
      refine lv_iload_n hx hb dX6_next_33 rfl (lv_at hl 0 rfl) ?_
      refine lv_aload_n hx hb dX6_next_34 rfl (lv_at hl 1 rfl) ?_
      refine va_get (D := D) (ci := 6) (v := .ref (q 17)) (C := RX6) (T := TX6) (N := 9) hx hb hts inlX6 hown hK hP 0 rfl rfl 2 (by decide) (kw hts kin_1 23 rfl) (fun _ h9 => h9) rfl dX6_next_35 ?_
      refine lv_iload_n hx hb dX6_next_38 rfl (lv_at hl 2 rfl) ?_
      refine lv_iload_n hx hb dX6_next_39 rfl (lv_at hl 3 rfl) ?_
      refine kvi (As := [.int barber, .int person]) (rest := [.int (f_X4_stripsKnown std barber person), .ref (q 8)]) (q0 := 0) (ci := 4) ⟨hx, hb, hml, hown, hts⟩ hP hK hD hS hA hE (k_X4_partsKnown l D cI cZ adK adV q std barber person) (kcv hts kM_X4_partsKnown (kin_20 _ (List.mem_of_getElem? (i := 19) rfl)) ⟨rfl, rfl⟩ ⟨Nat.le_of_ble_eq_true rfl, Nat.le_of_ble_eq_true rfl⟩) kBl_G kOk_G (wC cI q lat und kpl len ncl spe sru sbe sen lets wrds nums tb tp tr knd sec brd rms std sn ss sb sp past kept) (cut_c_std cI q lat und kpl len ncl spe sru sbe sen lets wrds nums tb tp tr knd sec brd rms std sn ss sb sp past kept std).1 (cut_c_std cI q lat und kpl len ncl spe sru sbe sen lets wrds nums tb tp tr knd sec brd rms std sn ss sb sp past kept std).2 rfl rfl rfl rfl hl.1 rfl (Nat.le_of_ble_eq_true rfl) dX6_next_40 (fun H locs hP hD hS => ?_)
      refine kvi (As := [.int (f_X4_stripsKnown std barber person), .int (f_X4_partsKnown std barber person)]) (rest := []) (q0 := 0) (ci := 5) ⟨hx, hb, hml, hown, hts⟩ hP hK hD hS hA hE (k_X5_fitting l D cI cZ adK adV q tb tp tr knd sec brd rms (f_X4_stripsKnown std barber person) (f_X4_partsKnown std barber person)) (kcv hts kM_X5_fitting (kin_20 _ (List.mem_of_getElem? (i := 23) rfl)) ⟨rfl, rfl⟩ ⟨Nat.le_of_ble_eq_true rfl, Nat.le_of_ble_eq_true rfl⟩) kBl_G kOk_G (wC cI q lat und kpl len ncl spe sru sbe sen lets wrds nums tb tp tr knd sec brd rms std sn ss sb sp past kept) (cut_c_town cI q lat und kpl len ncl spe sru sbe sen lets wrds nums tb tp tr knd sec brd rms std sn ss sb sp past kept tb tp tr knd sec brd rms).1 (cut_c_town cI q lat und kpl len ncl spe sru sbe sen lets wrds nums tb tp tr knd sec brd rms std sn ss sb sp past kept tb tp tr knd sec brd rms).2 rfl rfl rfl rfl hl.1 rfl (Nat.le_of_ble_eq_true rfl) dX6_next_43 (fun H locs hP hD hS => ?_)
      refine lv_istore (lv' := [(4, .int (f_X5_fitting tr rms (f_X4_stripsKnown std barber person) (f_X4_partsKnown std barber person))), (3, .int (f_X4_stripsKnown std barber person)), (0, .ref (q 0)), (1, .int barber), (2, .int person)]) hx hb dX6_next_46 hl (by decide) rfl (fun ls hl => ?_)
      refine lv_iload hx hb dX6_next_48 (lv_at hl 0 rfl) ?_
      refine lv_if_ne (tgt := 55) hx hb dX6_next_50 (by decide) (fun c_50 => ?_) (fun c_50 => ?_)
      · skip
        refine lv_iconst (v := (-1)) hx hb dX6_next_55 (by decide) ?_
        refine lv_istore (lv' := [(5, .int (-1)), (4, .int (f_X5_fitting tr rms (f_X4_stripsKnown std barber person) (f_X4_partsKnown std barber person))), (3, .int (f_X4_stripsKnown std barber person)), (0, .ref (q 0)), (1, .int barber), (2, .int person)]) hx hb dX6_next_56 hl (by decide) rfl (fun ls hl => ?_)
        refine lv_bipush (v := 9) hx hb dX6_next_58 (by decide) ?_
        refine lv_istore (lv' := [(6, .int 9), (5, .int (-1)), (4, .int (f_X5_fitting tr rms (f_X4_stripsKnown std barber person) (f_X4_partsKnown std barber person))), (3, .int (f_X4_stripsKnown std barber person)), (0, .ref (q 0)), (1, .int barber), (2, .int person)]) hx hb dX6_next_60 hl (by decide) rfl (fun ls hl => ?_)
        refine lv_iconst (v := 0) hx hb dX6_next_62 (by decide) ?_
        refine lv_istore (lv' := [(7, .int 0), (6, .int 9), (5, .int (-1)), (4, .int (f_X5_fitting tr rms (f_X4_stripsKnown std barber person) (f_X4_partsKnown std barber person))), (3, .int (f_X4_stripsKnown std barber person)), (0, .ref (q 0)), (1, .int barber), (2, .int person)]) hx hb dX6_next_63 hl (by decide) rfl (fun ls hl => ?_)
        have lp65 : ∀ (k65 i : Nat) (x65_5 : Int32) (x65_6 : Int32), i + k65 = 6 → (x65_5, x65_6) = lp (fun iz z => nx_X6_next_65 tr rms std barber person iz z.1 z.2) ((-1), 9) i → ∀ (H : Heap) (locs : List Loc) (ls : Array Slot), va_P D vwCl (wC cI q lat und kpl len ncl spe sru sbe sen lets wrds nums tb tp tr knd sec brd rms std sn ss sb sp past kept) H → va_D A (wC cI q lat und kpl len ncl spe sru sbe sen lets wrds nums tb tp tr knd sec brd rms std sn ss sb sp past kept) → va_S A s.heap H locs → lv_has ls 9 [(0, .ref (q 0)), (1, .int barber), (2, .int person), (3, .int (f_X4_stripsKnown std barber person)), (4, .int (f_X5_fitting tr rms (f_X4_stripsKnown std barber person) (f_X4_partsKnown std barber person))), (5, .int x65_5), (6, .int x65_6), (7, .int (nI i))] → W p l e rm_X6_next s m args below meth c H locs 0 0 Q (F0 m 65 ls []) := by
          intro k65
          induction k65 with
          | zero =>
            intro i x65_5 x65_6 hi65 ea65 H locs ls hP hD hS hl
            have hi65 : 6 = i := by omega
            subst hi65
            have ea65 : (x65_5, x65_6) = (x_X6_next_65 tr rms std barber person) := ea65
            have e65_0 : x65_5 = ((x_X6_next_65 tr rms std barber person).1) := (kfst ea65)
            have e65_1 : x65_6 = ((x_X6_next_65 tr rms std barber person).2) := (ksnd ea65)
            clear ea65
            have hl : lv_has ls 9 [(0, .ref (q 0)), (1, .int barber), (2, .int person), (3, .int (f_X4_stripsKnown std barber person)), (4, .int (f_X5_fitting tr rms (f_X4_stripsKnown std barber person) (f_X4_partsKnown std barber person))), (5, .int ((x_X6_next_65 tr rms std barber person).1)), (6, .int ((x_X6_next_65 tr rms std barber person).2)), (7, .int (nI 6))] := by rw [← e65_0, ← e65_1]; exact hl
            refine lv_iload hx hb dX6_next_65 (lv_at hl 7 rfl) ?_
            refine lv_bipush (v := 6) hx hb dX6_next_67 (by decide) ?_
            refine lv_icmp_ge (tgt := 115) hx hb dX6_next_69 (by decide) (fun _ => ?_) (fun c_69 => absurd (nI_le (Nat.le_refl _) (by decide)) c_69)
            refine lv_iload hx hb dX6_next_115 (lv_at hl 5 rfl) ?_
            have hf : (f_X6_next tb tp tr rms std barber person) = ((x_X6_next_65 tr rms std barber person).1) := ((if_neg c_5).trans ((if_neg c_13).trans (if_neg c_50)))
            rw [hf] at hret
            exact hret _ _ _ _ hP hS dX6_next_117
          | succ k65 ih65 =>
            intro i x65_5 x65_6 hi65 ea65 H locs ls hP hD hS hl
            have hlt65 : i < 6 := by omega
            refine lv_iload hx hb dX6_next_65 (lv_at hl 7 rfl) ?_
            refine lv_bipush (v := 6) hx hb dX6_next_67 (by decide) ?_
            refine lv_icmp_ge (tgt := 115) hx hb dX6_next_69 (by decide) (fun c_69 => absurd c_69 (nI_ge hlt65 (by decide))) (fun _ => ?_)
            refine lv_aload_n hx hb dX6_next_72 rfl (lv_at hl 0 rfl) ?_
            refine va_get (D := D) (ci := 6) (v := .ref (q 8)) (C := RX6) (T := TX6) (N := 9) hx hb hts inlX6 hown hK hP 0 rfl rfl 1 (by decide) (kw hts kin_1 19 rfl) (fun _ h9 => h9) rfl dX6_next_73 ?_
            refine lv_iload hx hb dX6_next_76 (lv_at hl 4 rfl) ?_
            refine lv_iload hx hb dX6_next_78 (lv_at hl 7 rfl) ?_
            refine kvi (As := [.int (f_X5_fitting tr rms (f_X4_stripsKnown std barber person) (f_X4_partsKnown std barber person)), .int (nI i)]) (rest := []) (q0 := 0) (ci := 5) ⟨hx, hb, hml, hown, hts⟩ hP hK hD hS hA hE (k_X5_mostAlike l D cI cZ adK adV q tb tp tr knd sec brd rms (f_X5_fitting tr rms (f_X4_stripsKnown std barber person) (f_X4_partsKnown std barber person)) (nI i)) (kcv hts kM_X5_mostAlike (kin_29 _ (List.mem_of_getElem? (i := 23) rfl)) ⟨rfl, rfl⟩ ⟨Nat.le_of_ble_eq_true rfl, Nat.le_of_ble_eq_true rfl⟩) kBl_G kOk_G (wC cI q lat und kpl len ncl spe sru sbe sen lets wrds nums tb tp tr knd sec brd rms std sn ss sb sp past kept) (cut_c_town cI q lat und kpl len ncl spe sru sbe sen lets wrds nums tb tp tr knd sec brd rms std sn ss sb sp past kept tb tp tr knd sec brd rms).1 (cut_c_town cI q lat und kpl len ncl spe sru sbe sen lets wrds nums tb tp tr knd sec brd rms std sn ss sb sp past kept tb tp tr knd sec brd rms).2 rfl rfl rfl rfl hl.1 rfl (Nat.le_of_ble_eq_true rfl) dX6_next_80 (fun H locs hP hD hS => ?_)
            refine lv_istore (lv' := [(8, .int (f_X5_mostAlike tr rms (f_X5_fitting tr rms (f_X4_stripsKnown std barber person) (f_X4_partsKnown std barber person)) (nI i))), (0, .ref (q 0)), (1, .int barber), (2, .int person), (3, .int (f_X4_stripsKnown std barber person)), (4, .int (f_X5_fitting tr rms (f_X4_stripsKnown std barber person) (f_X4_partsKnown std barber person))), (5, .int x65_5), (6, .int x65_6), (7, .int (nI i))]) hx hb dX6_next_83 hl (by decide) rfl (fun ls hl => ?_)
            refine lv_iload_n hx hb dX6_next_85 rfl (lv_at hl 4 rfl) ?_
            refine lv_iload hx hb dX6_next_86 (lv_at hl 8 rfl) ?_
            refine ksi (As := [.int (f_X4_stripsKnown std barber person), .int (nI i)]) (rest := []) ⟨hx, hb, hml, hown, hts⟩ hP hK hD hS hA hE (k_X6_has l D cI cZ adK adV (f_X4_stripsKnown std barber person) (nI i)) (kcs hts kM_X6_has (kin_28 _ (List.mem_of_getElem? (i := 4) rfl)) ⟨rfl, rfl⟩ ⟨Nat.le_of_ble_eq_true rfl, Nat.le_of_ble_eq_true rfl⟩) kBl_G kOk_G rfl hl.1 rfl (Nat.le_of_ble_eq_true rfl) dX6_next_88 (fun H locs hP hD hS => ?_)
            have J91 : ∀ (H : Heap) (locs : List Loc) (ls : Array Slot), va_P D vwCl (wC cI q lat und kpl len ncl spe sru sbe sen lets wrds nums tb tp tr knd sec brd rms std sn ss sb sp past kept) H → va_D A (wC cI q lat und kpl len ncl spe sru sbe sen lets wrds nums tb tp tr knd sec brd rms std sn ss sb sp past kept) → va_S A s.heap H locs → lv_has ls 9 [(0, .ref (q 0)), (1, .int barber), (2, .int person), (3, .int (f_X4_stripsKnown std barber person)), (4, .int (f_X5_fitting tr rms (f_X4_stripsKnown std barber person) (f_X4_partsKnown std barber person))), (5, .int (v_X6_next_91_0 tr rms std barber person i x65_5 x65_6)), (6, .int (v_X6_next_91_1 tr rms std barber person i x65_6)), (7, .int (nI i)), (8, .int (f_X5_mostAlike tr rms (f_X5_fitting tr rms (f_X4_stripsKnown std barber person) (f_X4_partsKnown std barber person)) (nI i)))] → W p l e rm_X6_next s m args below meth c H locs 0 0 Q (F0 m 109 ls []) := by
              intro H locs ls hP hD hS hl
              refine lv_iinc (v := (nI (i + 1))) (lv' := [(7, .int (nI (i + 1))), (0, .ref (q 0)), (1, .int barber), (2, .int person), (3, .int (f_X4_stripsKnown std barber person)), (4, .int (f_X5_fitting tr rms (f_X4_stripsKnown std barber person) (f_X4_partsKnown std barber person))), (5, .int (v_X6_next_91_0 tr rms std barber person i x65_5 x65_6)), (6, .int (v_X6_next_91_1 tr rms std barber person i x65_6)), (8, .int (f_X5_mostAlike tr rms (f_X5_fitting tr rms (f_X4_stripsKnown std barber person) (f_X4_partsKnown std barber person)) (nI i)))]) hx hb dX6_next_109 hl (k := 7) rfl (nI_1 i) (by decide) rfl (fun ls hl => ?_)
              refine lv_goto (tgt := 65) hx hb dX6_next_112 (by decide) ?_
              have hb65 : nx_X6_next_65 tr rms std barber person i x65_5 x65_6 = ((v_X6_next_91_0 tr rms std barber person i x65_5 x65_6), (v_X6_next_91_1 tr rms std barber person i x65_6)) := rfl
              have hs65 : (lp (fun iz z => nx_X6_next_65 tr rms std barber person iz z.1 z.2) ((-1), 9) (i + 1) : Int32 × Int32) = nx_X6_next_65 tr rms std barber person i ((lp (fun iz z => nx_X6_next_65 tr rms std barber person iz z.1 z.2) ((-1), 9) i : Int32 × Int32).1) ((lp (fun iz z => nx_X6_next_65 tr rms std barber person iz z.1 z.2) ((-1), 9) i : Int32 × Int32).2) := lp_succ _ _ _
              rw [← ea65] at hs65
              exact ih65 (i + 1) (v_X6_next_91_0 tr rms std barber person i x65_5 x65_6) (v_X6_next_91_1 tr rms std barber person i x65_6) (by omega) (hb65.symm.trans hs65.symm) _ _ _ hP hD hS (lv_sub hl [1, 2, 3, 4, 5, 6, 7, 0] rfl)
            refine lv_if_ne (tgt := 109) hx hb dX6_next_91 (by decide) (fun c_91 => ?_) (fun c_91 => ?_)
            · skip
              rw [show (v_X6_next_91_0 tr rms std barber person i x65_5 x65_6) = x65_5 from (if_neg c_91)] at J91
              rw [show (v_X6_next_91_1 tr rms std barber person i x65_6) = x65_6 from (if_neg c_91)] at J91
              exact J91 _ _ _ hP hD hS (lv_sub hl [1, 2, 3, 4, 5, 6, 7, 8, 0] rfl)
            · skip
              refine lv_iload hx hb dX6_next_94 (lv_at hl 0 rfl) ?_
              refine lv_iload hx hb dX6_next_96 (lv_at hl 7 rfl) ?_
              refine lv_icmp_ge (tgt := 109) hx hb dX6_next_98 (by decide) (fun c_98 => ?_) (fun c_98 => ?_)
              · skip
                rw [show (v_X6_next_91_0 tr rms std barber person i x65_5 x65_6) = x65_5 from ((if_pos c_91).trans (if_pos c_98))] at J91
                rw [show (v_X6_next_91_1 tr rms std barber person i x65_6) = x65_6 from ((if_pos c_91).trans (if_pos c_98))] at J91
                exact J91 _ _ _ hP hD hS (lv_sub hl [1, 2, 3, 4, 5, 6, 7, 8, 0] rfl)
              · skip
                refine lv_iload hx hb dX6_next_101 (lv_at hl 8 rfl) ?_
                refine lv_istore (lv' := [(5, .int (nI i)), (8, .int (f_X5_mostAlike tr rms (f_X5_fitting tr rms (f_X4_stripsKnown std barber person) (f_X4_partsKnown std barber person)) (nI i))), (0, .ref (q 0)), (1, .int barber), (2, .int person), (3, .int (f_X4_stripsKnown std barber person)), (4, .int (f_X5_fitting tr rms (f_X4_stripsKnown std barber person) (f_X4_partsKnown std barber person))), (6, .int x65_6), (7, .int (nI i))]) hx hb dX6_next_103 hl (by decide) rfl (fun ls hl => ?_)
                refine lv_iload hx hb dX6_next_105 (lv_at hl 1 rfl) ?_
                refine lv_istore (lv' := [(6, .int (f_X5_mostAlike tr rms (f_X5_fitting tr rms (f_X4_stripsKnown std barber person) (f_X4_partsKnown std barber person)) (nI i))), (5, .int (nI i)), (8, .int (f_X5_mostAlike tr rms (f_X5_fitting tr rms (f_X4_stripsKnown std barber person) (f_X4_partsKnown std barber person)) (nI i))), (0, .ref (q 0)), (1, .int barber), (2, .int person), (3, .int (f_X4_stripsKnown std barber person)), (4, .int (f_X5_fitting tr rms (f_X4_stripsKnown std barber person) (f_X4_partsKnown std barber person))), (7, .int (nI i))]) hx hb dX6_next_107 hl (by decide) rfl (fun ls hl => ?_)
                rw [show (v_X6_next_91_0 tr rms std barber person i x65_5 x65_6) = (nI i) from ((if_pos c_91).trans (if_neg c_98))] at J91
                rw [show (v_X6_next_91_1 tr rms std barber person i x65_6) = (f_X5_mostAlike tr rms (f_X5_fitting tr rms (f_X4_stripsKnown std barber person) (f_X4_partsKnown std barber person)) (nI i)) from ((if_pos c_91).trans (if_neg c_98))] at J91
                exact J91 _ _ _ hP hD hS (lv_sub hl [3, 4, 5, 6, 7, 1, 0, 8, 2] rfl)
        exact lp65 6 0 (-1) 9 (Nat.zero_add _) (lp_zero _ _).symm _ _ _ hP hD hS (lv_sub hl [5, 6, 7, 4, 3, 2, 1, 0] rfl)
      · skip
        refine lv_iconst (v := (-1)) hx hb dX6_next_53 (by decide) ?_
        have hf : (f_X6_next tb tp tr rms std barber person) = (-1) := ((if_neg c_5).trans ((if_neg c_13).trans (if_pos c_50)))
        rw [hf] at hret
        exact hret _ _ _ _ hP hS dX6_next_54
    · skip
      refine lv_bipush (v := (-2)) hx hb dX6_next_16 (by decide) ?_
      have hf : (f_X6_next tb tp tr rms std barber person) = (-2) := ((if_neg c_5).trans (if_pos c_13))
      rw [hf] at hret
      exact hret _ _ _ _ hP hS dX6_next_18
