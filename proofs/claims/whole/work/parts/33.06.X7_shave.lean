def f_X7_shave (w : Nat → Int32) (told : Nat → Int32) (undoes : Int32) (barber : Int32) (person : Int32) (strip : Int32) : Int32 × (Nat → Int32) × Int32 := if (f_X7_isBarber told barber) = 0 then ((-2), w, undoes) else (if (f_X7_isPerson told person) = 0 then ((-2), w, undoes) else (if (f_X7_isStrip strip) = 0 then ((-2), w, undoes) else (((f_X7_shaves ((f_X7_minds w undoes).1) told 0 barber person strip).1), (f_X7_shaves ((f_X7_minds w undoes).1) told 0 barber person strip).2, (f_X7_minds w undoes).2)))
abbrev rm_X7_shave : Room := { frames := 2, cells := 0, slots := 0, locals := 51 }
set_option maxRecDepth 100000 in
set_option maxHeartbeats 4000000 in
theorem k_X7_shave (l : Launch) (D : va_G) (cI cZ : ClassId) (u : Nat → Nat) (w : Nat → Int32) (told : Nat → Int32) (read : Nat → Int32) (isK : Nat → Int32) (undoes : Int32) (text : Nat → Int32) (texted : Int32) (seen : Int32) (seS : Nat → Int32) (seB : Nat → Int32) (seP : Nat → Int32) (at_ : Int32) (start : Int32) (clauses : Int32) (number : Int32) (word : Int64) (barber : Int32) (person : Int32) (strip : Int32) (hT0 : kb (told 0) 1 5) (hT1 : kb (told 1) 0 7) (h_undoes : kb undoes 0 9) : CI l D (kTy cI cZ) kT yX7_shave (.code yX7_shave cX7_shave 4 (some .int) :: wsL_law) rm_X7_shave [.ref (u 0), .int barber, .int person, .int strip] (wM cI cZ u w told read isK undoes text texted seen seS seB seP at_ start clauses number word) (wM cI cZ u ((f_X7_shave w told undoes barber person strip).2.1) told read isK ((f_X7_shave w told undoes barber person strip).2.2) text texted seen seS seB seP at_ start clauses number word) ((f_X7_shave w told undoes barber person strip).1) := by
  refine CI.of (cc := cX7_shave) (maxL := 4) (ty := .int) (by decide) rfl (Nat.le_of_ble_eq_true rfl) rfl ?_
  intro p e s m args below meth c A Q ls hx hb hml hts0 hown hA hP hK hD hE hl hret
  have hts : ∀ w ∈ wsL_law, w.before args s = true := fun w h => hts0 w (List.mem_cons_of_mem _ h)
  clear hts0
  have hown : s.vm.findClass RX7 = some m.cls := hown
  have hl : lv_has ls 4 [(0, .ref (u 0)), (1, .int barber), (2, .int person), (3, .int strip)] := hl
  have hS : va_S A s.heap s.heap [] := va_S.rf
  revert hP hS
  suffices hgo : ∀ (H : Heap) (locs : List Loc), va_P D vwCl (wM cI cZ u w told read isK undoes text texted seen seS seB seP at_ start clauses number word) H → va_S A s.heap H locs → W p l e rm_X7_shave s m args below meth c H locs 0 0 Q (F0 m 0 ls []) from fun a b => hgo _ _ a b
  intro H locs hP hS
  refine lv_aload_n hx hb dX7_shave_0 rfl (lv_at hl 0 rfl) ?_
  refine lv_iload_n hx hb dX7_shave_1 rfl (lv_at hl 1 rfl) ?_
  refine kvi (As := [.int barber]) (rest := []) (q0 := 0) (ci := 7) ⟨hx, hb, hml, hown, hts⟩ hP hK hD hS hA hE (k_X7_isBarber l D cI cZ  u w told read isK undoes text texted seen seS seB seP at_ start clauses number word barber) (kcv hts kM_X7_isBarber (kin_21 _ (List.mem_of_getElem? (i := 8) rfl)) ⟨rfl, rfl⟩ ⟨Nat.le_of_ble_eq_true rfl, Nat.le_of_ble_eq_true rfl⟩) kBl_T kOk_T (wM cI cZ u w told read isK undoes text texted seen seS seB seP at_ start clauses number word) (cut_m_m cI cZ u w told read isK undoes text texted seen seS seB seP at_ start clauses number word w told read isK undoes text texted seen seS seB seP at_ start clauses number word).1 (cut_m_m cI cZ u w told read isK undoes text texted seen seS seB seP at_ start clauses number word w told read isK undoes text texted seen seS seB seP at_ start clauses number word).2 rfl rfl rfl rfl hl.1 rfl (Nat.le_of_ble_eq_true rfl) dX7_shave_2 (fun H locs hP hD hS => ?_)
  refine lv_if_eq (tgt := 23) hx hb dX7_shave_5 (by decide) (fun c_5 => ?_) (fun c_5 => ?_)
  · skip
    refine lv_bipush (v := (-2)) hx hb dX7_shave_23 (by decide) ?_
    have hf : (f_X7_shave w told undoes barber person strip) = ((-2), w, undoes) := (if_pos c_5)
    rw [hf] at hret
    dsimp only at hret
    exact hret _ _ _ _ hP hS dX7_shave_25
  · skip
    refine lv_aload_n hx hb dX7_shave_8 rfl (lv_at hl 0 rfl) ?_
    refine lv_iload_n hx hb dX7_shave_9 rfl (lv_at hl 2 rfl) ?_
    refine kvi (As := [.int person]) (rest := []) (q0 := 0) (ci := 7) ⟨hx, hb, hml, hown, hts⟩ hP hK hD hS hA hE (k_X7_isPerson l D cI cZ  u w told read isK undoes text texted seen seS seB seP at_ start clauses number word person) (kcv hts kM_X7_isPerson (kin_18 _ (List.mem_of_getElem? (i := 6) rfl)) ⟨rfl, rfl⟩ ⟨Nat.le_of_ble_eq_true rfl, Nat.le_of_ble_eq_true rfl⟩) kBl_T kOk_T (wM cI cZ u w told read isK undoes text texted seen seS seB seP at_ start clauses number word) (cut_m_m cI cZ u w told read isK undoes text texted seen seS seB seP at_ start clauses number word w told read isK undoes text texted seen seS seB seP at_ start clauses number word).1 (cut_m_m cI cZ u w told read isK undoes text texted seen seS seB seP at_ start clauses number word w told read isK undoes text texted seen seS seB seP at_ start clauses number word).2 rfl rfl rfl rfl hl.1 rfl (Nat.le_of_ble_eq_true rfl) dX7_shave_10 (fun H locs hP hD hS => ?_)
    refine lv_if_eq (tgt := 23) hx hb dX7_shave_13 (by decide) (fun c_13 => ?_) (fun c_13 => ?_)
    · skip
      refine lv_bipush (v := (-2)) hx hb dX7_shave_23 (by decide) ?_
      have hf : (f_X7_shave w told undoes barber person strip) = ((-2), w, undoes) := ((if_neg c_5).trans (if_pos c_13))
      rw [hf] at hret
      dsimp only at hret
      exact hret _ _ _ _ hP hS dX7_shave_25
    · skip
      refine lv_iload_n hx hb dX7_shave_16 rfl (lv_at hl 3 rfl) ?_
      refine ksi (As := [.int strip]) (rest := []) ⟨hx, hb, hml, hown, hts⟩ hP hK hD hS hA hE (k_X7_isStrip l D cI cZ  strip) (kcs hts kM_X7_isStrip (kin_19 _ (List.mem_of_getElem? (i := 6) rfl)) ⟨rfl, rfl⟩ ⟨Nat.le_of_ble_eq_true rfl, Nat.le_of_ble_eq_true rfl⟩) kBl_T kOk_T rfl hl.1 rfl (Nat.le_of_ble_eq_true rfl) dX7_shave_17 (fun H locs hP hD hS => ?_)
      refine lv_if_ne (tgt := 26) hx hb dX7_shave_20 (by decide) (fun c_20 => ?_) (fun c_20 => ?_)
      · skip
        refine lv_aload_n hx hb dX7_shave_26 rfl (lv_at hl 0 rfl) ?_
        refine kvv (As := []) (rest := []) (q0 := 0) (ci := 7) ⟨hx, hb, hml, hown, hts⟩ hP hK hD hS hA hE (k_X7_minds l D cI cZ  u w told read isK undoes text texted seen seS seB seP at_ start clauses number word (h_undoes.wide (by decide) (by decide))) (kcv hts kM_X7_minds (kin_24 _ (List.mem_of_getElem? (i := 15) rfl)) ⟨rfl, rfl⟩ ⟨Nat.le_of_ble_eq_true rfl, Nat.le_of_ble_eq_true rfl⟩) kBl_T kOk_T (wM cI cZ u ((f_X7_minds w undoes).1) told read isK ((f_X7_minds w undoes).2) text texted seen seS seB seP at_ start clauses number word) (cut_m_m cI cZ u w told read isK undoes text texted seen seS seB seP at_ start clauses number word ((f_X7_minds w undoes).1) told read isK ((f_X7_minds w undoes).2) text texted seen seS seB seP at_ start clauses number word).1 (cut_m_m cI cZ u w told read isK undoes text texted seen seS seB seP at_ start clauses number word ((f_X7_minds w undoes).1) told read isK ((f_X7_minds w undoes).2) text texted seen seS seB seP at_ start clauses number word).2 rfl rfl rfl rfl hl.1 rfl (Nat.le_of_ble_eq_true rfl) dX7_shave_27 (fun H locs hP hD hS => ?_)
        refine lv_aload_n hx hb dX7_shave_30 rfl (lv_at hl 0 rfl) ?_
        refine lv_iconst (v := 0) hx hb dX7_shave_31 (by decide) ?_
        refine lv_iload_n hx hb dX7_shave_32 rfl (lv_at hl 1 rfl) ?_
        refine lv_iload_n hx hb dX7_shave_33 rfl (lv_at hl 2 rfl) ?_
        refine lv_iload_n hx hb dX7_shave_34 rfl (lv_at hl 3 rfl) ?_
        refine kvi (As := [.int 0, .int barber, .int person, .int strip]) (rest := []) (q0 := 0) (ci := 7) ⟨hx, hb, hml, hown, hts⟩ hP hK hD hS hA hE (k_X7_shaves l D cI cZ  u ((f_X7_minds w undoes).1) told read isK ((f_X7_minds w undoes).2) text texted seen seS seB seP at_ start clauses number word 0 barber person strip ((kb.lit 0).wide (by decide) (by decide)) ((kperson hT0 (by decide) c_5).wide (by decide) (by decide)) ((kperson hT1 (by decide) c_13).wide (by decide) (by decide)) ((kinlit (h := 5) (n := 5) rfl (by decide) c_20).wide (by decide) (by decide))) (kcv hts kM_X7_shaves (kin_24 _ (List.mem_of_getElem? (i := 23) rfl)) ⟨rfl, rfl⟩ ⟨Nat.le_of_ble_eq_true rfl, Nat.le_of_ble_eq_true rfl⟩) kBl_T kOk_T (wM cI cZ u ((f_X7_shaves ((f_X7_minds w undoes).1) told 0 barber person strip).2) told read isK ((f_X7_minds w undoes).2) text texted seen seS seB seP at_ start clauses number word) (cut_m_m cI cZ u ((f_X7_minds w undoes).1) told read isK ((f_X7_minds w undoes).2) text texted seen seS seB seP at_ start clauses number word ((f_X7_shaves ((f_X7_minds w undoes).1) told 0 barber person strip).2) told read isK ((f_X7_minds w undoes).2) text texted seen seS seB seP at_ start clauses number word).1 (cut_m_m cI cZ u ((f_X7_minds w undoes).1) told read isK ((f_X7_minds w undoes).2) text texted seen seS seB seP at_ start clauses number word ((f_X7_shaves ((f_X7_minds w undoes).1) told 0 barber person strip).2) told read isK ((f_X7_minds w undoes).2) text texted seen seS seB seP at_ start clauses number word).2 rfl rfl rfl rfl hl.1 rfl (Nat.le_of_ble_eq_true rfl) dX7_shave_35 (fun H locs hP hD hS => ?_)
        have hf : (f_X7_shave w told undoes barber person strip) = (((f_X7_shaves ((f_X7_minds w undoes).1) told 0 barber person strip).1), (f_X7_shaves ((f_X7_minds w undoes).1) told 0 barber person strip).2, (f_X7_minds w undoes).2) := ((if_neg c_5).trans ((if_neg c_13).trans (if_neg c_20)))
        rw [hf] at hret
        dsimp only at hret
        exact hret _ _ _ _ hP hS dX7_shave_38
      · skip
        refine lv_bipush (v := (-2)) hx hb dX7_shave_23 (by decide) ?_
        have hf : (f_X7_shave w told undoes barber person strip) = ((-2), w, undoes) := ((if_neg c_5).trans ((if_neg c_13).trans (if_pos c_20)))
        rw [hf] at hret
        dsimp only at hret
        exact hret _ _ _ _ hP hS dX7_shave_25
