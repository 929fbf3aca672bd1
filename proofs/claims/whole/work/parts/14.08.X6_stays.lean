def v_X6_stays_84_0 (tr : Int32) (knd : Nat → Int32) (sec : Nat → Int32) (rms : Nat → Int32) (std : Nat → Int32) (barber : Int32) (person : Int32) (q_ : Int32) (i : Nat) (x63_7 : Int32) : Int32 := if (f_X6_fittingBehind tr rms std barber person ((nI i) &&& (f_X6_stripsTelling knd sec std person)) (f_X6_partsTold knd sec std person)) < 2 then x63_7 else (x63_7 + (f_X6_weight (nI i) q_))
def nx_X6_stays_63 (tr : Int32) (knd : Nat → Int32) (sec : Nat → Int32) (rms : Nat → Int32) (std : Nat → Int32) (barber : Int32) (person : Int32) (q_ : Int32) (i : Nat) (x63_7 : Int32) : Int32 := (v_X6_stays_84_0 tr knd sec rms std barber person q_ i x63_7)
def x_X6_stays_63 (tr : Int32) (knd : Nat → Int32) (sec : Nat → Int32) (rms : Nat → Int32) (std : Nat → Int32) (barber : Int32) (person : Int32) (q_ : Int32) : Int32 := lp (fun iz z => nx_X6_stays_63 tr knd sec rms std barber person q_ iz z) 0 64
def v_X6_stays_128_0 (tr : Int32) (knd : Nat → Int32) (sec : Nat → Int32) (rms : Nat → Int32) (std : Nat → Int32) (barber : Int32) (person : Int32) (q_ : Int32) (part : Int32) : Int32 := if part = 0 then ((x_X6_stays_63 tr knd sec rms std barber person q_) / (if 1 < (f_X6_commonDivisor (x_X6_stays_63 tr knd sec rms std barber person q_) (f_X6_power 10 6)) then (f_X6_commonDivisor (x_X6_stays_63 tr knd sec rms std barber person q_) (f_X6_power 10 6)) else 1)) else ((f_X6_power 10 6) / (if 1 < (f_X6_commonDivisor (x_X6_stays_63 tr knd sec rms std barber person q_) (f_X6_power 10 6)) then (f_X6_commonDivisor (x_X6_stays_63 tr knd sec rms std barber person q_) (f_X6_power 10 6)) else 1))
def f_X6_stays (tb : Int32) (tp : Int32) (tr : Int32) (knd : Nat → Int32) (sec : Nat → Int32) (rms : Nat → Int32) (std : Nat → Int32) (barber : Int32) (person : Int32) (q_ : Int32) (part : Int32) : Int32 := if (f_X6_isBarber tb barber) = 0 then (-2) else (if (f_X6_isPerson tp person) = 0 then (-2) else (if q_ < 0 then (-3) else (if 10 < q_ then (-3) else (if part < 0 then (-3) else (if part ≤ 1 then (v_X6_stays_128_0 tr knd sec rms std barber person q_ part) else (-3))))))
abbrev rm_X6_stays : Room := { frames := 5, cells := 0, slots := 0, locals := 110 }
set_option maxRecDepth 100000 in
set_option maxHeartbeats 4000000 in
theorem k_X6_stays (l : Launch) (D : va_G) (cI cZ : ClassId) (adK adV : Nat → Nat) (q : Nat → Nat) (lat : Int32) (und : Int32) (kpl : Int32) (len : Int32) (ncl : Int32) (spe : Int32) (sru : Int32) (sbe : Int32) (sen : Int32) (lets : Nat → Int32) (wrds : Nat → Int32) (nums : Nat → Int32) (tb : Int32) (tp : Int32) (tr : Int32) (knd : Nat → Int32) (sec : Nat → Int32) (brd : Nat → Int32) (rms : Nat → Int32) (std : Nat → Int32) (sn : Int32) (ss : Nat → Int32) (sb : Nat → Int32) (sp : Nat → Int32) (past : Nat → Int32) (kept : Nat → Int32) (barber : Int32) (person : Int32) (q_ : Int32) (part : Int32) : CI l D (kTy cI cZ) (kG adK adV) yX6_stays (.code yX6_stays cX6_stays 10 (some .int) :: wsL_law) rm_X6_stays [.ref (q 0), .int barber, .int person, .int q_, .int part] (wC cI q lat und kpl len ncl spe sru sbe sen lets wrds nums tb tp tr knd sec brd rms std sn ss sb sp past kept) (wC cI q lat und kpl len ncl spe sru sbe sen lets wrds nums tb tp tr knd sec brd rms std sn ss sb sp past kept) (f_X6_stays tb tp tr knd sec rms std barber person q_ part) := by
  refine CI.of (cc := cX6_stays) (maxL := 10) (ty := .int) (by decide) rfl (Nat.le_of_ble_eq_true rfl) rfl ?_
  intro p e s m args below meth c A Q ls hx hb hml hts0 hown hA hP hK hD hE hl hret
  have hts : ∀ w ∈ wsL_law, w.before args s = true := fun w h => hts0 w (List.mem_cons_of_mem _ h)
  clear hts0
  have hown : s.vm.findClass RX6 = some m.cls := hown
  have hl : lv_has ls 10 [(0, .ref (q 0)), (1, .int barber), (2, .int person), (3, .int q_), (4, .int part)] := hl
  have hS : va_S A s.heap s.heap [] := va_S.rf
  revert hP hS
  suffices hgo : ∀ (H : Heap) (locs : List Loc), va_P D vwCl (wC cI q lat und kpl len ncl spe sru sbe sen lets wrds nums tb tp tr knd sec brd rms std sn ss sb sp past kept) H → va_S A s.heap H locs → W p l e rm_X6_stays s m args below meth c H locs 0 0 Q (F0 m 0 ls []) from fun a b => hgo _ _ a b
  intro H locs hP hS
  refine lv_aload_n hx hb dX6_stays_0 rfl (lv_at hl 0 rfl) ?_
  refine lv_iload_n hx hb dX6_stays_1 rfl (lv_at hl 1 rfl) ?_
  refine kvi (As := [.int barber]) (rest := []) (q0 := 0) (ci := 6) ⟨hx, hb, hml, hown, hts⟩ hP hK hD hS hA hE (k_X6_isBarber l D cI cZ adK adV q lat und kpl len ncl spe sru sbe sen lets wrds nums tb tp tr knd sec brd rms std sn ss sb sp past kept barber) (kcv hts kM_X6_isBarber (kin_20 _ (List.mem_of_getElem? (i := 10) rfl)) ⟨rfl, rfl⟩ ⟨Nat.le_of_ble_eq_true rfl, Nat.le_of_ble_eq_true rfl⟩) kBl_G kOk_G (wC cI q lat und kpl len ncl spe sru sbe sen lets wrds nums tb tp tr knd sec brd rms std sn ss sb sp past kept) (cut_c_c cI q lat und kpl len ncl spe sru sbe sen lets wrds nums tb tp tr knd sec brd rms std sn ss sb sp past kept lat und kpl len ncl spe sru sbe sen lets wrds nums tb tp tr knd sec brd rms std sn ss sb sp past kept).1 (cut_c_c cI q lat und kpl len ncl spe sru sbe sen lets wrds nums tb tp tr knd sec brd rms std sn ss sb sp past kept lat und kpl len ncl spe sru sbe sen lets wrds nums tb tp tr knd sec brd rms std sn ss sb sp past kept).2 rfl rfl rfl rfl hl.1 rfl (Nat.le_of_ble_eq_true rfl) dX6_stays_2 (fun H locs hP hD hS => ?_)
  refine lv_if_eq (tgt := 16) hx hb dX6_stays_5 (by decide) (fun c_5 => ?_) (fun c_5 => ?_)
  · skip
    refine lv_bipush (v := (-2)) hx hb dX6_stays_16 (by decide) ?_
    have hf : (f_X6_stays tb tp tr knd sec rms std barber person q_ part) = (-2) := (if_pos c_5)
    rw [hf] at hret
    exact hret _ _ _ _ hP hS dX6_stays_18
  · skip
    refine lv_aload_n hx hb dX6_stays_8 rfl (lv_at hl 0 rfl) ?_
    refine lv_iload_n hx hb dX6_stays_9 rfl (lv_at hl 2 rfl) ?_
    refine kvi (As := [.int person]) (rest := []) (q0 := 0) (ci := 6) ⟨hx, hb, hml, hown, hts⟩ hP hK hD hS hA hE (k_X6_isPerson l D cI cZ adK adV q lat und kpl len ncl spe sru sbe sen lets wrds nums tb tp tr knd sec brd rms std sn ss sb sp past kept person) (kcv hts kM_X6_isPerson (kin_17 _ (List.mem_of_getElem? (i := 1) rfl)) ⟨rfl, rfl⟩ ⟨Nat.le_of_ble_eq_true rfl, Nat.le_of_ble_eq_true rfl⟩) kBl_G kOk_G (wC cI q lat und kpl len ncl spe sru sbe sen lets wrds nums tb tp tr knd sec brd rms std sn ss sb sp past kept) (cut_c_c cI q lat und kpl len ncl spe sru sbe sen lets wrds nums tb tp tr knd sec brd rms std sn ss sb sp past kept lat und kpl len ncl spe sru sbe sen lets wrds nums tb tp tr knd sec brd rms std sn ss sb sp past kept).1 (cut_c_c cI q lat und kpl len ncl spe sru sbe sen lets wrds nums tb tp tr knd sec brd rms std sn ss sb sp past kept lat und kpl len ncl spe sru sbe sen lets wrds nums tb tp tr knd sec brd rms std sn ss sb sp past kept).2 rfl rfl rfl rfl hl.1 rfl (Nat.le_of_ble_eq_true rfl) dX6_stays_10 (fun H locs hP hD hS => ?_)
    refine lv_if_ne (tgt := 19) hx hb dX6_stays_13 (by decide) (fun c_13 => ?_) (fun c_13 => ?_)
    · skip
      refine lv_iload_n hx hb dX6_stays_19 rfl (lv_at hl 3 rfl) ?_
      refine lv_if_lt (tgt := 40) hx hb dX6_stays_20 (by decide) (fun c_20 => ?_) (fun c_20 => ?_)
      · skip
        refine lv_bipush (v := (-3)) hx hb dX6_stays_40 (by decide) ?_
        have hf : (f_X6_stays tb tp tr knd sec rms std barber person q_ part) = (-3) := ((if_neg c_5).trans ((if_neg c_13).trans (if_pos c_20)))
        rw [hf] at hret
        exact hret _ _ _ _ hP hS dX6_stays_42
      · skip
        refine lv_iload_n hx hb dX6_stays_23 rfl (lv_at hl 3 rfl) ?_
        refine lv_bipush (v := 10) hx hb dX6_stays_24 (by decide) ?_
        refine lv_icmp_gt (tgt := 40) hx hb dX6_stays_26 (by decide) (fun c_26 => ?_) (fun c_26 => ?_)
        · skip
          refine lv_bipush (v := (-3)) hx hb dX6_stays_40 (by decide) ?_
          have hf : (f_X6_stays tb tp tr knd sec rms std barber person q_ part) = (-3) := ((if_neg c_5).trans ((if_neg c_13).trans ((if_neg c_20).trans (if_pos c_26))))
          rw [hf] at hret
          exact hret _ _ _ _ hP hS dX6_stays_42
        · skip
          refine lv_iload hx hb dX6_stays_29 (lv_at hl 4 rfl) ?_
          refine lv_if_lt (tgt := 40) hx hb dX6_stays_31 (by decide) (fun c_31 => ?_) (fun c_31 => ?_)
          · skip
            refine lv_bipush (v := (-3)) hx hb dX6_stays_40 (by decide) ?_
            have hf : (f_X6_stays tb tp tr knd sec rms std barber person q_ part) = (-3) := ((if_neg c_5).trans ((if_neg c_13).trans ((if_neg c_20).trans ((if_neg c_26).trans (if_pos c_31)))))
            rw [hf] at hret
            exact hret _ _ _ _ hP hS dX6_stays_42
          · skip
            refine lv_iload hx hb dX6_stays_34 (lv_at hl 4 rfl) ?_
            refine lv_iconst (v := 1) hx hb dX6_stays_36 (by decide) ?_
            refine lv_icmp_le (tgt := 43) hx hb dX6_stays_37 (by decide) (fun c_37 => ?_) (fun c_37 => ?_)
            · skip
              refine lv_aload_n hx hb dX6_stays_43 rfl (lv_at hl 0 rfl) ?_
              refine lv_iload_n hx hb dX6_stays_44 rfl (lv_at hl 2 rfl) ?_
              refine kvi (As := [.int person]) (rest := []) (q0 := 0) (ci := 6) ⟨hx, hb, hml, hown, hts⟩ hP hK hD hS hA hE (k_X6_stripsTelling l D cI cZ adK adV q lat und kpl len ncl spe sru sbe sen lets wrds nums tb tp tr knd sec brd rms std sn ss sb sp past kept person) (kcv hts kM_X6_stripsTelling (kin_28 _ (List.mem_of_getElem? (i := 15) rfl)) ⟨rfl, rfl⟩ ⟨Nat.le_of_ble_eq_true rfl, Nat.le_of_ble_eq_true rfl⟩) kBl_G kOk_G (wC cI q lat und kpl len ncl spe sru sbe sen lets wrds nums tb tp tr knd sec brd rms std sn ss sb sp past kept) (cut_c_c cI q lat und kpl len ncl spe sru sbe sen lets wrds nums tb tp tr knd sec brd rms std sn ss sb sp past kept lat und kpl len ncl spe sru sbe sen lets wrds nums tb tp tr knd sec brd rms std sn ss sb sp past kept).1 (cut_c_c cI q lat und kpl len ncl spe sru sbe sen lets wrds nums tb tp tr knd sec brd rms std sn ss sb sp past kept lat und kpl len ncl spe sru sbe sen lets wrds nums tb tp tr knd sec brd rms std sn ss sb sp past kept).2 rfl rfl rfl rfl hl.1 rfl (Nat.le_of_ble_eq_true rfl) dX6_stays_45 (fun H locs hP hD hS => ?_)
              refine lv_istore (lv' := [(5, .int (f_X6_stripsTelling knd sec std person)), (0, .ref (q 0)), (1, .int barber), (2, .int person), (3, .int q_), (4, .int part)]) hx hb dX6_stays_48 hl (by decide) rfl (fun ls hl => ?_)
              refine lv_aload_n hx hb dX6_stays_50 rfl (lv_at hl 1 rfl) ?_
              refine lv_iload_n hx hb dX6_stays_51 rfl (lv_at hl 3 rfl) ?_
              refine kvi (As := [.int person]) (rest := []) (q0 := 0) (ci := 6) ⟨hx, hb, hml, hown, hts⟩ hP hK hD hS hA hE (k_X6_partsTold l D cI cZ adK adV q lat und kpl len ncl spe sru sbe sen lets wrds nums tb tp tr knd sec brd rms std sn ss sb sp past kept person) (kcv hts kM_X6_partsTold (kin_28 _ (List.mem_of_getElem? (i := 19) rfl)) ⟨rfl, rfl⟩ ⟨Nat.le_of_ble_eq_true rfl, Nat.le_of_ble_eq_true rfl⟩) kBl_G kOk_G (wC cI q lat und kpl len ncl spe sru sbe sen lets wrds nums tb tp tr knd sec brd rms std sn ss sb sp past kept) (cut_c_c cI q lat und kpl len ncl spe sru sbe sen lets wrds nums tb tp tr knd sec brd rms std sn ss sb sp past kept lat und kpl len ncl spe sru sbe sen lets wrds nums tb tp tr knd sec brd rms std sn ss sb sp past kept).1 (cut_c_c cI q lat und kpl len ncl spe sru sbe sen lets wrds nums tb tp tr knd sec brd rms std sn ss sb sp past kept lat und kpl len ncl spe sru sbe sen lets wrds nums tb tp tr knd sec brd rms std sn ss sb sp past kept).2 rfl rfl rfl rfl hl.1 rfl (Nat.le_of_ble_eq_true rfl) dX6_stays_52 (fun H locs hP hD hS => ?_)
              refine lv_istore (lv' := [(6, .int (f_X6_partsTold knd sec std person)), (5, .int (f_X6_stripsTelling knd sec std person)), (0, .ref (q 0)), (1, .int barber), (2, .int person), (3, .int q_), (4, .int part)]) hx hb dX6_stays_55 hl (by decide) rfl (fun ls hl => ?_)
              refine lv_iconst (v := 0) hx hb dX6_stays_57 (by decide) ?_
              refine lv_istore (lv' := [(7, .int 0), (6, .int (f_X6_partsTold knd sec std person)), (5, .int (f_X6_stripsTelling knd sec std person)), (0, .ref (q 0)), (1, .int barber), (2, .int person), (3, .int q_), (4, .int part)]) hx hb dX6_stays_58 hl (by decide) rfl (fun ls hl => ?_)
              refine lv_iconst (v := 0) hx hb dX6_stays_60 (by decide) ?_
              refine lv_istore (lv' := [(8, .int 0), (7, .int 0), (6, .int (f_X6_partsTold knd sec std person)), (5, .int (f_X6_stripsTelling knd sec std person)), (0, .ref (q 0)), (1, .int barber), (2, .int person), (3, .int q_), (4, .int part)]) hx hb dX6_stays_61 hl (by decide) rfl (fun ls hl => ?_)
              have lp63 : ∀ (k63 i : Nat) (x63_7 : Int32), i + k63 = 64 → x63_7 = lp (fun iz z => nx_X6_stays_63 tr knd sec rms std barber person q_ iz z) 0 i → ∀ (H : Heap) (locs : List Loc) (ls : Array Slot), va_P D vwCl (wC cI q lat und kpl len ncl spe sru sbe sen lets wrds nums tb tp tr knd sec brd rms std sn ss sb sp past kept) H → va_D A (wC cI q lat und kpl len ncl spe sru sbe sen lets wrds nums tb tp tr knd sec brd rms std sn ss sb sp past kept) → va_S A s.heap H locs → lv_has ls 10 [(0, .ref (q 0)), (1, .int barber), (2, .int person), (3, .int q_), (4, .int part), (5, .int (f_X6_stripsTelling knd sec std person)), (6, .int (f_X6_partsTold knd sec std person)), (7, .int x63_7), (8, .int (nI i))] → W p l e rm_X6_stays s m args below meth c H locs 0 0 Q (F0 m 63 ls []) := by
                intro k63
                induction k63 with
                | zero =>
                  intro i x63_7 hi63 ea63 H locs ls hP hD hS hl
                  have hi63 : 64 = i := by omega
                  subst hi63
                  have ea63 : x63_7 = (x_X6_stays_63 tr knd sec rms std barber person q_) := ea63
                  subst ea63
                  refine lv_iload hx hb dX6_stays_63 (lv_at hl 8 rfl) ?_
                  refine lv_bipush (v := 64) hx hb dX6_stays_65 (by decide) ?_
                  refine lv_icmp_ge (tgt := 104) hx hb dX6_stays_67 (by decide) (fun _ => ?_) (fun c_67 => absurd (nI_le (Nat.le_refl _) (by decide)) c_67)
                  refine lv_bipush (v := 10) hx hb dX6_stays_104 (by decide) ?_
                  refine lv_bipush (v := 6) hx hb dX6_stays_106 (by decide) ?_
                  refine ksi (As := [.int 10, .int 6]) (rest := []) ⟨hx, hb, hml, hown, hts⟩ hP hK hD hS hA hE (k_X6_power l D cI cZ adK adV 10 6) (kcs hts kM_X6_power (kin_33 _ (List.mem_of_getElem? (i := 3) rfl)) ⟨rfl, rfl⟩ ⟨Nat.le_of_ble_eq_true rfl, Nat.le_of_ble_eq_true rfl⟩) kBl_G kOk_G rfl hl.1 rfl (Nat.le_of_ble_eq_true rfl) dX6_stays_108 (fun H locs hP hD hS => ?_)
                  refine lv_istore (lv' := [(8, .int (f_X6_power 10 6)), (0, .ref (q 0)), (1, .int barber), (2, .int person), (3, .int q_), (4, .int part), (5, .int (f_X6_stripsTelling knd sec std person)), (6, .int (f_X6_partsTold knd sec std person)), (7, .int (x_X6_stays_63 tr knd sec rms std barber person q_))]) hx hb dX6_stays_111 hl (by decide) rfl (fun ls hl => ?_)
                  refine lv_iconst (v := 1) hx hb dX6_stays_113 (by decide) ?_
                  refine lv_iload hx hb dX6_stays_114 (lv_at hl 8 rfl) ?_
                  refine lv_iload hx hb dX6_stays_116 (lv_at hl 0 rfl) ?_
                  refine ksi (As := [.int (x_X6_stays_63 tr knd sec rms std barber person q_), .int (f_X6_power 10 6)]) (rest := [.int 1]) ⟨hx, hb, hml, hown, hts⟩ hP hK hD hS hA hE (k_X6_commonDivisor l D cI cZ adK adV (x_X6_stays_63 tr knd sec rms std barber person q_) (f_X6_power 10 6)) (kcs hts kM_X6_commonDivisor (kin_33 _ (List.mem_of_getElem? (i := 6) rfl)) ⟨rfl, rfl⟩ ⟨Nat.le_of_ble_eq_true rfl, Nat.le_of_ble_eq_true rfl⟩) kBl_G kOk_G rfl hl.1 rfl (Nat.le_of_ble_eq_true rfl) dX6_stays_118 (fun H locs hP hD hS => ?_)
                  refine va_mmax hx hb (hml.trans hl.1.symm) hown (kw hts kin_31 0 rfl) (kw hts kin_3 3 rfl) (kw hts kin_3 4 rfl) (kw hts kin_3 5 rfl) (Nat.le_of_ble_eq_true rfl) (Nat.le_of_ble_eq_true rfl) (Nat.zero_le _) (Nat.zero_le _) dX6_stays_121 ?_
                  refine lv_istore (lv' := [(9, .int (if 1 < (f_X6_commonDivisor (x_X6_stays_63 tr knd sec rms std barber person q_) (f_X6_power 10 6)) then (f_X6_commonDivisor (x_X6_stays_63 tr knd sec rms std barber person q_) (f_X6_power 10 6)) else 1)), (8, .int (f_X6_power 10 6)), (0, .ref (q 0)), (1, .int barber), (2, .int person), (3, .int q_), (4, .int part), (5, .int (f_X6_stripsTelling knd sec std person)), (6, .int (f_X6_partsTold knd sec std person)), (7, .int (x_X6_stays_63 tr knd sec rms std barber person q_))]) hx hb dX6_stays_124 hl (by decide) rfl (fun ls hl => ?_)
                  refine lv_iload hx hb dX6_stays_126 (lv_at hl 6 rfl) ?_
                  have J128 : ∀ (H : Heap) (locs : List Loc) (ls : Array Slot), va_P D vwCl (wC cI q lat und kpl len ncl spe sru sbe sen lets wrds nums tb tp tr knd sec brd rms std sn ss sb sp past kept) H → va_D A (wC cI q lat und kpl len ncl spe sru sbe sen lets wrds nums tb tp tr knd sec brd rms std sn ss sb sp past kept) → va_S A s.heap H locs → lv_has ls 10 [(0, .ref (q 0)), (1, .int barber), (2, .int person), (3, .int q_), (4, .int part), (5, .int (f_X6_stripsTelling knd sec std person)), (6, .int (f_X6_partsTold knd sec std person)), (7, .int (x_X6_stays_63 tr knd sec rms std barber person q_)), (8, .int (f_X6_power 10 6)), (9, .int (if 1 < (f_X6_commonDivisor (x_X6_stays_63 tr knd sec rms std barber person q_) (f_X6_power 10 6)) then (f_X6_commonDivisor (x_X6_stays_63 tr knd sec rms std barber person q_) (f_X6_power 10 6)) else 1))] → W p l e rm_X6_stays s m args below meth c H locs 0 0 Q (F0 m 144 ls [.int (v_X6_stays_128_0 tr knd sec rms std barber person q_ part)]) := by
                    intro H locs ls hP hD hS hl
                    have hf : (f_X6_stays tb tp tr knd sec rms std barber person q_ part) = (v_X6_stays_128_0 tr knd sec rms std barber person q_ part) := ((if_neg c_5).trans ((if_neg c_13).trans ((if_neg c_20).trans ((if_neg c_26).trans ((if_neg c_31).trans (if_pos c_37))))))
                    rw [hf] at hret
                    exact hret _ _ _ _ hP hS dX6_stays_144
                  refine lv_if_ne (tgt := 139) hx hb dX6_stays_128 (by decide) (fun c_128 => ?_) (fun c_128 => ?_)
                  · skip
                    refine lv_iload hx hb dX6_stays_139 (lv_at hl 1 rfl) ?_
                    refine lv_iload hx hb dX6_stays_141 (lv_at hl 0 rfl) ?_
                    refine lv_idiv hx hb dX6_stays_143 (kmax1_ne _) ?_
                    rw [show (v_X6_stays_128_0 tr knd sec rms std barber person q_ part) = ((f_X6_power 10 6) / (if 1 < (f_X6_commonDivisor (x_X6_stays_63 tr knd sec rms std barber person q_) (f_X6_power 10 6)) then (f_X6_commonDivisor (x_X6_stays_63 tr knd sec rms std barber person q_) (f_X6_power 10 6)) else 1)) from (if_neg c_128)] at J128
                    exact J128 _ _ _ hP hD hS (lv_sub hl [2, 3, 4, 5, 6, 7, 8, 9, 1, 0] rfl)
                  · skip
                    refine lv_iload hx hb dX6_stays_131 (lv_at hl 9 rfl) ?_
                    refine lv_iload hx hb dX6_stays_133 (lv_at hl 0 rfl) ?_
                    refine lv_idiv hx hb dX6_stays_135 (kmax1_ne _) ?_
                    refine lv_goto (tgt := 144) hx hb dX6_stays_136 (by decide) ?_
                    rw [show (v_X6_stays_128_0 tr knd sec rms std barber person q_ part) = ((x_X6_stays_63 tr knd sec rms std barber person q_) / (if 1 < (f_X6_commonDivisor (x_X6_stays_63 tr knd sec rms std barber person q_) (f_X6_power 10 6)) then (f_X6_commonDivisor (x_X6_stays_63 tr knd sec rms std barber person q_) (f_X6_power 10 6)) else 1)) from (if_pos c_128)] at J128
                    exact J128 _ _ _ hP hD hS (lv_sub hl [2, 3, 4, 5, 6, 7, 8, 9, 1, 0] rfl)
                | succ k63 ih63 =>
                  intro i x63_7 hi63 ea63 H locs ls hP hD hS hl
                  have hlt63 : i < 64 := by omega
                  refine lv_iload hx hb dX6_stays_63 (lv_at hl 8 rfl) ?_
                  refine lv_bipush (v := 64) hx hb dX6_stays_65 (by decide) ?_
                  refine lv_icmp_ge (tgt := 104) hx hb dX6_stays_67 (by decide) (fun c_67 => absurd c_67 (nI_ge hlt63 (by decide))) (fun _ => ?_)
                  refine lv_aload_n hx hb dX6_stays_70 rfl (lv_at hl 0 rfl) ?_
                  refine lv_iload_n hx hb dX6_stays_71 rfl (lv_at hl 1 rfl) ?_
                  refine lv_iload_n hx hb dX6_stays_72 rfl (lv_at hl 2 rfl) ?_
                  refine lv_iload hx hb dX6_stays_73 (lv_at hl 8 rfl) ?_
                  refine lv_iload hx hb dX6_stays_75 (lv_at hl 5 rfl) ?_
                  refine lv_iand hx hb dX6_stays_77 ?_
                  refine lv_iload hx hb dX6_stays_78 (lv_at hl 6 rfl) ?_
                  refine kvi (As := [.int barber, .int person, .int ((nI i) &&& (f_X6_stripsTelling knd sec std person)), .int (f_X6_partsTold knd sec std person)]) (rest := []) (q0 := 0) (ci := 6) ⟨hx, hb, hml, hown, hts⟩ hP hK hD hS hA hE (k_X6_fittingBehind l D cI cZ adK adV q lat und kpl len ncl spe sru sbe sen lets wrds nums tb tp tr knd sec brd rms std sn ss sb sp past kept barber person ((nI i) &&& (f_X6_stripsTelling knd sec std person)) (f_X6_partsTold knd sec std person)) (kcv hts kM_X6_fittingBehind (kin_28 _ (List.mem_of_getElem? (i := 23) rfl)) ⟨rfl, rfl⟩ ⟨Nat.le_of_ble_eq_true rfl, Nat.le_of_ble_eq_true rfl⟩) kBl_G kOk_G (wC cI q lat und kpl len ncl spe sru sbe sen lets wrds nums tb tp tr knd sec brd rms std sn ss sb sp past kept) (cut_c_c cI q lat und kpl len ncl spe sru sbe sen lets wrds nums tb tp tr knd sec brd rms std sn ss sb sp past kept lat und kpl len ncl spe sru sbe sen lets wrds nums tb tp tr knd sec brd rms std sn ss sb sp past kept).1 (cut_c_c cI q lat und kpl len ncl spe sru sbe sen lets wrds nums tb tp tr knd sec brd rms std sn ss sb sp past kept lat und kpl len ncl spe sru sbe sen lets wrds nums tb tp tr knd sec brd rms std sn ss sb sp past kept).2 rfl rfl rfl rfl hl.1 rfl (Nat.le_of_ble_eq_true rfl) dX6_stays_80 (fun H locs hP hD hS => ?_)
                  refine lv_iconst (v := 2) hx hb dX6_stays_83 (by decide) ?_
                  have J84 : ∀ (H : Heap) (locs : List Loc) (ls : Array Slot), va_P D vwCl (wC cI q lat und kpl len ncl spe sru sbe sen lets wrds nums tb tp tr knd sec brd rms std sn ss sb sp past kept) H → va_D A (wC cI q lat und kpl len ncl spe sru sbe sen lets wrds nums tb tp tr knd sec brd rms std sn ss sb sp past kept) → va_S A s.heap H locs → lv_has ls 10 [(0, .ref (q 0)), (1, .int barber), (2, .int person), (3, .int q_), (4, .int part), (5, .int (f_X6_stripsTelling knd sec std person)), (6, .int (f_X6_partsTold knd sec std person)), (7, .int (v_X6_stays_84_0 tr knd sec rms std barber person q_ i x63_7)), (8, .int (nI i))] → W p l e rm_X6_stays s m args below meth c H locs 0 0 Q (F0 m 98 ls []) := by
                    intro H locs ls hP hD hS hl
                    refine lv_iinc (v := (nI (i + 1))) (lv' := [(8, .int (nI (i + 1))), (0, .ref (q 0)), (1, .int barber), (2, .int person), (3, .int q_), (4, .int part), (5, .int (f_X6_stripsTelling knd sec std person)), (6, .int (f_X6_partsTold knd sec std person)), (7, .int (v_X6_stays_84_0 tr knd sec rms std barber person q_ i x63_7))]) hx hb dX6_stays_98 hl (k := 8) rfl (nI_1 i) (by decide) rfl (fun ls hl => ?_)
                    refine lv_goto (tgt := 63) hx hb dX6_stays_101 (by decide) ?_
                    have hb63 : nx_X6_stays_63 tr knd sec rms std barber person q_ i x63_7 = (v_X6_stays_84_0 tr knd sec rms std barber person q_ i x63_7) := rfl
                    have hs63 : (lp (fun iz z => nx_X6_stays_63 tr knd sec rms std barber person q_ iz z) 0 (i + 1) : Int32) = nx_X6_stays_63 tr knd sec rms std barber person q_ i (lp (fun iz z => nx_X6_stays_63 tr knd sec rms std barber person q_ iz z) 0 i : Int32) := lp_succ _ _ _
                    rw [← ea63] at hs63
                    exact ih63 (i + 1) (v_X6_stays_84_0 tr knd sec rms std barber person q_ i x63_7) (by omega) (hb63.symm.trans hs63.symm) _ _ _ hP hD hS (lv_sub hl [1, 2, 3, 4, 5, 6, 7, 8, 0] rfl)
                  refine lv_icmp_lt (tgt := 98) hx hb dX6_stays_84 (by decide) (fun c_84 => ?_) (fun c_84 => ?_)
                  · skip
                    rw [show (v_X6_stays_84_0 tr knd sec rms std barber person q_ i x63_7) = x63_7 from (if_pos c_84)] at J84
                    exact J84 _ _ _ hP hD hS (lv_sub hl [0, 1, 2, 3, 4, 5, 6, 7, 8] rfl)
                  · skip
                    refine lv_iload hx hb dX6_stays_87 (lv_at hl 7 rfl) ?_
                    refine lv_iload hx hb dX6_stays_89 (lv_at hl 8 rfl) ?_
                    refine lv_iload_n hx hb dX6_stays_91 rfl (lv_at hl 3 rfl) ?_
                    refine ksi (As := [.int (nI i), .int q_]) (rest := [.int x63_7]) ⟨hx, hb, hml, hown, hts⟩ hP hK hD hS hA hE (k_X6_weight l D cI cZ adK adV (nI i) q_) (kcs hts kM_X6_weight (kin_33 _ (List.mem_of_getElem? (i := 0) rfl)) ⟨rfl, rfl⟩ ⟨Nat.le_of_ble_eq_true rfl, Nat.le_of_ble_eq_true rfl⟩) kBl_G kOk_G rfl hl.1 rfl (Nat.le_of_ble_eq_true rfl) dX6_stays_92 (fun H locs hP hD hS => ?_)
                    refine lv_iadd hx hb dX6_stays_95 ?_
                    refine lv_istore (lv' := [(7, .int (x63_7 + (f_X6_weight (nI i) q_))), (0, .ref (q 0)), (1, .int barber), (2, .int person), (3, .int q_), (4, .int part), (5, .int (f_X6_stripsTelling knd sec std person)), (6, .int (f_X6_partsTold knd sec std person)), (8, .int (nI i))]) hx hb dX6_stays_96 hl (by decide) rfl (fun ls hl => ?_)
                    rw [show (v_X6_stays_84_0 tr knd sec rms std barber person q_ i x63_7) = (x63_7 + (f_X6_weight (nI i) q_)) from (if_neg c_84)] at J84
                    exact J84 _ _ _ hP hD hS (lv_sub hl [1, 2, 3, 4, 5, 6, 7, 0, 8] rfl)
              exact lp63 64 0 0 (Nat.zero_add _) (lp_zero _ _).symm _ _ _ hP hD hS (lv_sub hl [4, 5, 6, 7, 8, 3, 2, 1, 0] rfl)
            · skip
              refine lv_bipush (v := (-3)) hx hb dX6_stays_40 (by decide) ?_
              have hf : (f_X6_stays tb tp tr knd sec rms std barber person q_ part) = (-3) := ((if_neg c_5).trans ((if_neg c_13).trans ((if_neg c_20).trans ((if_neg c_26).trans ((if_neg c_31).trans (if_neg c_37))))))
              rw [hf] at hret
              exact hret _ _ _ _ hP hS dX6_stays_42
    · skip
      refine lv_bipush (v := (-2)) hx hb dX6_stays_16 (by decide) ?_
      have hf : (f_X6_stays tb tp tr knd sec rms std barber person q_ part) = (-2) := ((if_neg c_5).trans (if_pos c_13))
      rw [hf] at hret
      exact hret _ _ _ _ hP hS dX6_stays_18
