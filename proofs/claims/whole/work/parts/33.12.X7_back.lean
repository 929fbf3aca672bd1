def f_X7_back (w : Nat → Int32) (isK : Nat → Int32) (undoes : Int32) (k : Int32) : Int32 × (Nat → Int32) × Int32 := if (f_X7_in k.toInt64 0 1) = 0 then ((-2), w, undoes) else (if (isK k.toNatClampNeg) = 0 then ((-4), w, undoes) else (((f_X7_copy w (85 + (85 * k)) 0) 0), (f_X7_copy w (85 + (85 * k)) 0), 0))
abbrev rm_X7_back : Room := { frames := 1, cells := 0, slots := 0, locals := 25 }
set_option maxRecDepth 100000 in
set_option maxHeartbeats 4000000 in
theorem k_X7_back (l : Launch) (D : va_G) (cI cZ : ClassId) (u : Nat → Nat) (w : Nat → Int32) (told : Nat → Int32) (read : Nat → Int32) (isK : Nat → Int32) (undoes : Int32) (text : Nat → Int32) (texted : Int32) (seen : Int32) (seS : Nat → Int32) (seB : Nat → Int32) (seP : Nat → Int32) (at_ : Int32) (start : Int32) (clauses : Int32) (number : Int32) (word : Int64) (k : Int32) : CI l D (kTy cI cZ) kT yX7_back (.code yX7_back cX7_back 2 (some .int) :: wsL_law) rm_X7_back [.ref (u 0), .int k] (wM cI cZ u w told read isK undoes text texted seen seS seB seP at_ start clauses number word) (wM cI cZ u ((f_X7_back w isK undoes k).2.1) told read isK ((f_X7_back w isK undoes k).2.2) text texted seen seS seB seP at_ start clauses number word) ((f_X7_back w isK undoes k).1) := by
  refine CI.of (cc := cX7_back) (maxL := 2) (ty := .int) (by decide) rfl (Nat.le_of_ble_eq_true rfl) rfl ?_
  intro p e s m args below meth c A Q ls hx hb hml hts0 hown hA hP hK hD hE hl hret
  have hts : ∀ w ∈ wsL_law, w.before args s = true := fun w h => hts0 w (List.mem_cons_of_mem _ h)
  clear hts0
  have hown : s.vm.findClass RX7 = some m.cls := hown
  have hl : lv_has ls 2 [(0, .ref (u 0)), (1, .int k)] := hl
  have hS : va_S A s.heap s.heap [] := va_S.rf
  revert hP hS
  suffices hgo : ∀ (H : Heap) (locs : List Loc), va_P D vwCl (wM cI cZ u w told read isK undoes text texted seen seS seB seP at_ start clauses number word) H → va_S A s.heap H locs → W p l e rm_X7_back s m args below meth c H locs 0 0 Q (F0 m 0 ls []) from fun a b => hgo _ _ a b
  intro H locs hP hS
  refine lv_iload_n hx hb dX7_back_0 rfl (lv_at hl 1 rfl) ?_
  refine lv_i2l (v := k.toInt64) hx hb dX7_back_1 rfl ?_
  refine lv_lconst (v := 0) hx hb dX7_back_2 (by decide) ?_
  refine lv_lconst (v := 1) hx hb dX7_back_3 (by decide) ?_
  refine ksi (As := [.long k.toInt64, .long 0, .long 1]) (rest := []) ⟨hx, hb, hml, hown, hts⟩ hP hK hD hS hA hE (k_X7_in l D cI cZ  k.toInt64 0 1) (kcs hts kM_X7_in (kin_6 _ (List.mem_of_getElem? (i := 6) rfl)) ⟨rfl, rfl⟩ ⟨Nat.le_of_ble_eq_true rfl, Nat.le_of_ble_eq_true rfl⟩) kBl_T kOk_T rfl hl.1 rfl (Nat.le_of_ble_eq_true rfl) dX7_back_4 (fun H locs hP hD hS => ?_)
  refine lv_if_ne (tgt := 13) hx hb dX7_back_7 (by decide) (fun c_7 => ?_) (fun c_7 => ?_)
  · skip
    refine lv_aload_n hx hb dX7_back_13 rfl (lv_at hl 0 rfl) ?_
    refine va_get (D := D) (ci := 7) (v := .ref (u 4)) (C := RX7) (T := TX7) (N := 16) hx hb hts inlX7 hown hK hP 0 rfl rfl 3 (by decide) (kw hts kin_5 2 rfl) (fun _ h9 => h9) rfl dX7_back_14 ?_
    refine lv_iload_n hx hb dX7_back_17 rfl (lv_at hl 1 rfl) ?_
    refine va_zald (cA := cZ) (n := 2) (f := isK) hx hb hK hP 4 1 rfl rfl ((kinlit (h := 1) (n := 1) rfl (by decide) c_7).in (by decide) (by decide)) dX7_back_18 ?_
    refine lv_if_ne (tgt := 25) hx hb dX7_back_19 (by decide) (fun c_19 => ?_) (fun c_19 => ?_)
    · skip
      refine lv_aload_n hx hb dX7_back_25 rfl (lv_at hl 0 rfl) ?_
      refine lv_bipush (v := 85) hx hb dX7_back_26 (by decide) ?_
      refine lv_bipush (v := 85) hx hb dX7_back_28 (by decide) ?_
      refine lv_iload_n hx hb dX7_back_30 rfl (lv_at hl 1 rfl) ?_
      refine lv_imul hx hb dX7_back_31 ?_
      refine lv_iadd hx hb dX7_back_32 ?_
      refine lv_iconst (v := 0) hx hb dX7_back_33 (by decide) ?_
      refine kvv (As := [.int (85 + (85 * k)), .int 0]) (rest := []) (q0 := 0) (ci := 7) ⟨hx, hb, hml, hown, hts⟩ hP hK hD hS hA hE (k_X7_copy l D cI cZ  u w told read isK undoes text texted seen seS seB seP at_ start clauses number word (85 + (85 * k)) 0 ((kb.add (kb.lit 85) (kb.mul (c := 85) rfl (kinlit (h := 1) (n := 1) rfl (by decide) c_7))).wide (by decide) (by decide)) ((kb.lit 0).wide (by decide) (by decide))) (kcv hts kM_X7_copy (kin_24 _ (List.mem_of_getElem? (i := 19) rfl)) ⟨rfl, rfl⟩ ⟨Nat.le_of_ble_eq_true rfl, Nat.le_of_ble_eq_true rfl⟩) kBl_T kOk_T (wM cI cZ u (f_X7_copy w (85 + (85 * k)) 0) told read isK undoes text texted seen seS seB seP at_ start clauses number word) (cut_m_m cI cZ u w told read isK undoes text texted seen seS seB seP at_ start clauses number word (f_X7_copy w (85 + (85 * k)) 0) told read isK undoes text texted seen seS seB seP at_ start clauses number word).1 (cut_m_m cI cZ u w told read isK undoes text texted seen seS seB seP at_ start clauses number word (f_X7_copy w (85 + (85 * k)) 0) told read isK undoes text texted seen seS seB seP at_ start clauses number word).2 rfl rfl rfl rfl hl.1 rfl (Nat.le_of_ble_eq_true rfl) dX7_back_34 (fun H locs hP hD hS => ?_)
      refine lv_aload_n hx hb dX7_back_37 rfl (lv_at hl 0 rfl) ?_
      refine lv_iconst (v := 0) hx hb dX7_back_38 (by decide) ?_
      refine va_put (D := D) (ci := 7) (v := .int 0) (ty := .int) (C := RX7) (T := TX7) (N := 16) hx hb hts inlX7 tyX7 tyX7_ok nmX7 hown hK hP hD hS 0 rfl rfl 4 (by decide) (kw hts kin_16 20 rfl) (fun _ h9 => h9) rfl (by decide +kernel) rfl rfl (Nat.le_of_ble_eq_true rfl) dX7_back_39 (fun H locs hP hD hS => ?_)
      have hP : va_P D vwCl (wM cI cZ u (f_X7_copy w (85 + (85 * k)) 0) told read isK 0 text texted seen seS seB seP at_ start clauses number word) H := hP
      have hD : va_D A (wM cI cZ u (f_X7_copy w (85 + (85 * k)) 0) told read isK 0 text texted seen seS seB seP at_ start clauses number word) := hD
      refine lv_aload_n hx hb dX7_back_42 rfl (lv_at hl 0 rfl) ?_
      refine va_get (D := D) (ci := 7) (v := .ref (u 1)) (C := RX7) (T := TX7) (N := 16) hx hb hts inlX7 hown hK hP 0 rfl rfl 0 (by decide) (kw hts kin_4 22 rfl) (fun _ h9 => h9) rfl dX7_back_43 ?_
      refine lv_iconst (v := 0) hx hb dX7_back_46 (by decide) ?_
      refine va_iald (cA := cI) (n := 1020) (f := (f_X7_copy w (85 + (85 * k)) 0)) hx hb hK hP 1 0 rfl rfl ((kb.lit 0).in (by decide) (by decide)) dX7_back_47 ?_
      show W p l e rm_X7_back s m args below meth c H locs 0 0 Q (F0 m 48 ls [.int ((f_X7_copy w (85 + (85 * k)) 0) 0)])
      have hf : (f_X7_back w isK undoes k) = (((f_X7_copy w (85 + (85 * k)) 0) 0), (f_X7_copy w (85 + (85 * k)) 0), 0) := ((if_neg c_7).trans (if_neg c_19))
      rw [hf] at hret
      dsimp only at hret
      exact hret _ _ _ _ hP hS dX7_back_48
    · skip
      refine lv_bipush (v := (-4)) hx hb dX7_back_22 (by decide) ?_
      have hf : (f_X7_back w isK undoes k) = ((-4), w, undoes) := ((if_neg c_7).trans (if_pos c_19))
      rw [hf] at hret
      dsimp only at hret
      exact hret _ _ _ _ hP hS dX7_back_24
  · skip
    refine lv_bipush (v := (-2)) hx hb dX7_back_10 (by decide) ?_
    have hf : (f_X7_back w isK undoes k) = ((-2), w, undoes) := (if_pos c_7)
    rw [hf] at hret
    dsimp only at hret
    exact hret _ _ _ _ hP hS dX7_back_12
