def f_X7_burn (w : Nat → Int32) (told : Nat → Int32) (undoes : Int32) (barber : Int32) (person : Int32) : Int32 × (Nat → Int32) × Int32 := if (f_X7_isBarber told barber) = 0 then ((-2), w, undoes) else (if (f_X7_isPerson told person) = 0 then ((-2), w, undoes) else (if (f_X7_ones (w ((37 + ((6 * barber) + person)).toNatClampNeg))) = 0 then ((-4), w, undoes) else ((f_X7_ones (w ((37 + ((6 * barber) + person)).toNatClampNeg))), (upd (upd ((f_X7_minds w undoes).1) ((37 + ((6 * barber) + person)).toNatClampNeg) 0) ((61 + ((6 * barber) + person)).toNatClampNeg) 0), (f_X7_minds w undoes).2)))
abbrev rm_X7_burn : Room := { frames := 2, cells := 0, slots := 0, locals := 46 }
set_option maxRecDepth 100000 in
set_option maxHeartbeats 4000000 in
theorem k_X7_burn (l : Launch) (D : va_G) (cI cZ : ClassId) (u : Nat → Nat) (w : Nat → Int32) (told : Nat → Int32) (read : Nat → Int32) (isK : Nat → Int32) (undoes : Int32) (text : Nat → Int32) (texted : Int32) (seen : Int32) (seS : Nat → Int32) (seB : Nat → Int32) (seP : Nat → Int32) (at_ : Int32) (start : Int32) (clauses : Int32) (number : Int32) (word : Int64) (barber : Int32) (person : Int32) (hT0 : kb (told 0) 1 5) (hT1 : kb (told 1) 0 7) (h_undoes : kb undoes 0 9) : CI l D (kTy cI cZ) kT yX7_burn (.code yX7_burn cX7_burn 5 (some .int) :: wsL_law) rm_X7_burn [.ref (u 0), .int barber, .int person] (wM cI cZ u w told read isK undoes text texted seen seS seB seP at_ start clauses number word) (wM cI cZ u ((f_X7_burn w told undoes barber person).2.1) told read isK ((f_X7_burn w told undoes barber person).2.2) text texted seen seS seB seP at_ start clauses number word) ((f_X7_burn w told undoes barber person).1) := by
  refine CI.of (cc := cX7_burn) (maxL := 5) (ty := .int) (by decide) rfl (Nat.le_of_ble_eq_true rfl) rfl ?_
  intro p e s m args below meth c A Q ls hx hb hml hts0 hown hA hP hK hD hE hl hret
  have hts : ∀ w ∈ wsL_law, w.before args s = true := fun w h => hts0 w (List.mem_cons_of_mem _ h)
  clear hts0
  have hown : s.vm.findClass RX7 = some m.cls := hown
  have hl : lv_has ls 5 [(0, .ref (u 0)), (1, .int barber), (2, .int person)] := hl
  have hS : va_S A s.heap s.heap [] := va_S.rf
  revert hP hS
  suffices hgo : ∀ (H : Heap) (locs : List Loc), va_P D vwCl (wM cI cZ u w told read isK undoes text texted seen seS seB seP at_ start clauses number word) H → va_S A s.heap H locs → W p l e rm_X7_burn s m args below meth c H locs 0 0 Q (F0 m 0 ls []) from fun a b => hgo _ _ a b
  intro H locs hP hS
  refine lv_aload_n hx hb dX7_burn_0 rfl (lv_at hl 0 rfl) ?_
  refine lv_iload_n hx hb dX7_burn_1 rfl (lv_at hl 1 rfl) ?_
  refine kvi (As := [.int barber]) (rest := []) (q0 := 0) (ci := 7) ⟨hx, hb, hml, hown, hts⟩ hP hK hD hS hA hE (k_X7_isBarber l D cI cZ  u w told read isK undoes text texted seen seS seB seP at_ start clauses number word barber) (kcv hts kM_X7_isBarber (kin_21 _ (List.mem_of_getElem? (i := 8) rfl)) ⟨rfl, rfl⟩ ⟨Nat.le_of_ble_eq_true rfl, Nat.le_of_ble_eq_true rfl⟩) kBl_T kOk_T (wM cI cZ u w told read isK undoes text texted seen seS seB seP at_ start clauses number word) (cut_m_m cI cZ u w told read isK undoes text texted seen seS seB seP at_ start clauses number word w told read isK undoes text texted seen seS seB seP at_ start clauses number word).1 (cut_m_m cI cZ u w told read isK undoes text texted seen seS seB seP at_ start clauses number word w told read isK undoes text texted seen seS seB seP at_ start clauses number word).2 rfl rfl rfl rfl hl.1 rfl (Nat.le_of_ble_eq_true rfl) dX7_burn_2 (fun H locs hP hD hS => ?_)
  refine lv_if_eq (tgt := 16) hx hb dX7_burn_5 (by decide) (fun c_5 => ?_) (fun c_5 => ?_)
  · skip
    refine lv_bipush (v := (-2)) hx hb dX7_burn_16 (by decide) ?_
    have hf : (f_X7_burn w told undoes barber person) = ((-2), w, undoes) := (if_pos c_5)
    rw [hf] at hret
    dsimp only at hret
    exact hret _ _ _ _ hP hS dX7_burn_18
  · skip
    refine lv_aload_n hx hb dX7_burn_8 rfl (lv_at hl 0 rfl) ?_
    refine lv_iload_n hx hb dX7_burn_9 rfl (lv_at hl 2 rfl) ?_
    refine kvi (As := [.int person]) (rest := []) (q0 := 0) (ci := 7) ⟨hx, hb, hml, hown, hts⟩ hP hK hD hS hA hE (k_X7_isPerson l D cI cZ  u w told read isK undoes text texted seen seS seB seP at_ start clauses number word person) (kcv hts kM_X7_isPerson (kin_18 _ (List.mem_of_getElem? (i := 6) rfl)) ⟨rfl, rfl⟩ ⟨Nat.le_of_ble_eq_true rfl, Nat.le_of_ble_eq_true rfl⟩) kBl_T kOk_T (wM cI cZ u w told read isK undoes text texted seen seS seB seP at_ start clauses number word) (cut_m_m cI cZ u w told read isK undoes text texted seen seS seB seP at_ start clauses number word w told read isK undoes text texted seen seS seB seP at_ start clauses number word).1 (cut_m_m cI cZ u w told read isK undoes text texted seen seS seB seP at_ start clauses number word w told read isK undoes text texted seen seS seB seP at_ start clauses number word).2 rfl rfl rfl rfl hl.1 rfl (Nat.le_of_ble_eq_true rfl) dX7_burn_10 (fun H locs hP hD hS => ?_)
    refine lv_if_ne (tgt := 19) hx hb dX7_burn_13 (by decide) (fun c_13 => ?_) (fun c_13 => ?_)
    · skip
      refine lv_bipush (v := 6) hx hb dX7_burn_19 (by decide) ?_
      refine lv_iload_n hx hb dX7_burn_21 rfl (lv_at hl 1 rfl) ?_
      refine lv_imul hx hb dX7_burn_22 ?_
      refine lv_iload_n hx hb dX7_burn_23 rfl (lv_at hl 2 rfl) ?_
      refine lv_iadd hx hb dX7_burn_24 ?_
      refine lv_istore_n (lv' := [(3, .int ((6 * barber) + person)), (0, .ref (u 0)), (1, .int barber), (2, .int person)]) hx hb dX7_burn_25 rfl hl (by decide) rfl (fun ls hl => ?_)
      refine lv_aload_n hx hb dX7_burn_26 rfl (lv_at hl 1 rfl) ?_
      refine va_get (D := D) (ci := 7) (v := .ref (u 1)) (C := RX7) (T := TX7) (N := 16) hx hb hts inlX7 hown hK hP 0 rfl rfl 0 (by decide) (kw hts kin_4 22 rfl) (fun _ h9 => h9) rfl dX7_burn_27 ?_
      refine lv_bipush (v := 37) hx hb dX7_burn_30 (by decide) ?_
      refine lv_iload_n hx hb dX7_burn_32 rfl (lv_at hl 0 rfl) ?_
      refine lv_iadd hx hb dX7_burn_33 ?_
      refine va_iald (cA := cI) (n := 1020) (f := w) hx hb hK hP 1 0 rfl rfl ((kb.add (kb.lit 37) (kb.add (kb.mul (c := 6) rfl (kperson hT0 (by decide) c_5)) (kperson hT1 (by decide) c_13))).in (by decide) (by decide)) dX7_burn_34 ?_
      refine ksi (As := [.int (w ((37 + ((6 * barber) + person)).toNatClampNeg))]) (rest := []) ⟨hx, hb, hml, hown, hts⟩ hP hK hD hS hA hE (k_X7_ones l D cI cZ  (w ((37 + ((6 * barber) + person)).toNatClampNeg))) (kcs hts kM_X7_ones (kin_27 _ (List.mem_of_getElem? (i := 1) rfl)) ⟨rfl, rfl⟩ ⟨Nat.le_of_ble_eq_true rfl, Nat.le_of_ble_eq_true rfl⟩) kBl_T kOk_T rfl hl.1 rfl (Nat.le_of_ble_eq_true rfl) dX7_burn_35 (fun H locs hP hD hS => ?_)
      refine lv_istore (lv' := [(4, .int (f_X7_ones (w ((37 + ((6 * barber) + person)).toNatClampNeg)))), (3, .int ((6 * barber) + person)), (0, .ref (u 0)), (1, .int barber), (2, .int person)]) hx hb dX7_burn_38 hl (by decide) rfl (fun ls hl => ?_)
      refine lv_iload hx hb dX7_burn_40 (lv_at hl 0 rfl) ?_
      refine lv_if_ne (tgt := 48) hx hb dX7_burn_42 (by decide) (fun c_42 => ?_) (fun c_42 => ?_)
      · skip
        refine lv_aload_n hx hb dX7_burn_48 rfl (lv_at hl 2 rfl) ?_
        refine kvv (As := []) (rest := []) (q0 := 0) (ci := 7) ⟨hx, hb, hml, hown, hts⟩ hP hK hD hS hA hE (k_X7_minds l D cI cZ  u w told read isK undoes text texted seen seS seB seP at_ start clauses number word (h_undoes.wide (by decide) (by decide))) (kcv hts kM_X7_minds (kin_24 _ (List.mem_of_getElem? (i := 15) rfl)) ⟨rfl, rfl⟩ ⟨Nat.le_of_ble_eq_true rfl, Nat.le_of_ble_eq_true rfl⟩) kBl_T kOk_T (wM cI cZ u ((f_X7_minds w undoes).1) told read isK ((f_X7_minds w undoes).2) text texted seen seS seB seP at_ start clauses number word) (cut_m_m cI cZ u w told read isK undoes text texted seen seS seB seP at_ start clauses number word ((f_X7_minds w undoes).1) told read isK ((f_X7_minds w undoes).2) text texted seen seS seB seP at_ start clauses number word).1 (cut_m_m cI cZ u w told read isK undoes text texted seen seS seB seP at_ start clauses number word ((f_X7_minds w undoes).1) told read isK ((f_X7_minds w undoes).2) text texted seen seS seB seP at_ start clauses number word).2 rfl rfl rfl rfl hl.1 rfl (Nat.le_of_ble_eq_true rfl) dX7_burn_49 (fun H locs hP hD hS => ?_)
        refine lv_aload_n hx hb dX7_burn_52 rfl (lv_at hl 2 rfl) ?_
        refine va_get (D := D) (ci := 7) (v := .ref (u 1)) (C := RX7) (T := TX7) (N := 16) hx hb hts inlX7 hown hK hP 0 rfl rfl 0 (by decide) (kw hts kin_4 22 rfl) (fun _ h9 => h9) rfl dX7_burn_53 ?_
        refine lv_bipush (v := 37) hx hb dX7_burn_56 (by decide) ?_
        refine lv_iload_n hx hb dX7_burn_58 rfl (lv_at hl 1 rfl) ?_
        refine lv_iadd hx hb dX7_burn_59 ?_
        refine lv_iconst (v := 0) hx hb dX7_burn_60 (by decide) ?_
        refine va_iast (cA := cI) (n := 1020) (f := (f_X7_minds w undoes).1) hx hb hK hP hD hS 1 0 rfl rfl ((kb.add (kb.lit 37) (kb.add (kb.mul (c := 6) rfl (kperson hT0 (by decide) c_5)) (kperson hT1 (by decide) c_13))).in (by decide) (by decide)) dX7_burn_61 (fun H locs hP hD hS => ?_)
        have hP : va_P D vwCl (wM cI cZ u (upd ((f_X7_minds w undoes).1) ((37 + ((6 * barber) + person)).toNatClampNeg) 0) told read isK ((f_X7_minds w undoes).2) text texted seen seS seB seP at_ start clauses number word) H := hP
        have hD : va_D A (wM cI cZ u (upd ((f_X7_minds w undoes).1) ((37 + ((6 * barber) + person)).toNatClampNeg) 0) told read isK ((f_X7_minds w undoes).2) text texted seen seS seB seP at_ start clauses number word) := hD
        refine lv_aload_n hx hb dX7_burn_62 rfl (lv_at hl 2 rfl) ?_
        refine va_get (D := D) (ci := 7) (v := .ref (u 1)) (C := RX7) (T := TX7) (N := 16) hx hb hts inlX7 hown hK hP 0 rfl rfl 0 (by decide) (kw hts kin_4 22 rfl) (fun _ h9 => h9) rfl dX7_burn_63 ?_
        refine lv_bipush (v := 61) hx hb dX7_burn_66 (by decide) ?_
        refine lv_iload_n hx hb dX7_burn_68 rfl (lv_at hl 1 rfl) ?_
        refine lv_iadd hx hb dX7_burn_69 ?_
        refine lv_iconst (v := 0) hx hb dX7_burn_70 (by decide) ?_
        refine va_iast (cA := cI) (n := 1020) (f := (upd ((f_X7_minds w undoes).1) ((37 + ((6 * barber) + person)).toNatClampNeg) 0)) hx hb hK hP hD hS 1 0 rfl rfl ((kb.add (kb.lit 61) (kb.add (kb.mul (c := 6) rfl (kperson hT0 (by decide) c_5)) (kperson hT1 (by decide) c_13))).in (by decide) (by decide)) dX7_burn_71 (fun H locs hP hD hS => ?_)
        have hP : va_P D vwCl (wM cI cZ u (upd (upd ((f_X7_minds w undoes).1) ((37 + ((6 * barber) + person)).toNatClampNeg) 0) ((61 + ((6 * barber) + person)).toNatClampNeg) 0) told read isK ((f_X7_minds w undoes).2) text texted seen seS seB seP at_ start clauses number word) H := hP
        have hD : va_D A (wM cI cZ u (upd (upd ((f_X7_minds w undoes).1) ((37 + ((6 * barber) + person)).toNatClampNeg) 0) ((61 + ((6 * barber) + person)).toNatClampNeg) 0) told read isK ((f_X7_minds w undoes).2) text texted seen seS seB seP at_ start clauses number word) := hD
        refine lv_iload hx hb dX7_burn_72 (lv_at hl 0 rfl) ?_
        have hf : (f_X7_burn w told undoes barber person) = ((f_X7_ones (w ((37 + ((6 * barber) + person)).toNatClampNeg))), (upd (upd ((f_X7_minds w undoes).1) ((37 + ((6 * barber) + person)).toNatClampNeg) 0) ((61 + ((6 * barber) + person)).toNatClampNeg) 0), (f_X7_minds w undoes).2) := ((if_neg c_5).trans ((if_neg c_13).trans (if_neg c_42)))
        rw [hf] at hret
        dsimp only at hret
        exact hret _ _ _ _ hP hS dX7_burn_74
      · skip
        refine lv_bipush (v := (-4)) hx hb dX7_burn_45 (by decide) ?_
        have hf : (f_X7_burn w told undoes barber person) = ((-4), w, undoes) := ((if_neg c_5).trans ((if_neg c_13).trans (if_pos c_42)))
        rw [hf] at hret
        dsimp only at hret
        exact hret _ _ _ _ hP hS dX7_burn_47
    · skip
      refine lv_bipush (v := (-2)) hx hb dX7_burn_16 (by decide) ?_
      have hf : (f_X7_burn w told undoes barber person) = ((-2), w, undoes) := ((if_neg c_5).trans (if_pos c_13))
      rw [hf] at hret
      dsimp only at hret
      exact hret _ _ _ _ hP hS dX7_burn_18
