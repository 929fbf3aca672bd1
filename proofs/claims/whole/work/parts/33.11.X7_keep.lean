def f_X7_keep (w : Nat → Int32) (isK : Nat → Int32) (k : Int32) : Int32 × (Nat → Int32) × (Nat → Int32) := if (f_X7_in k.toInt64 0 1) = 0 then ((-2), w, isK) else (((f_X7_copy w 0 (85 + (85 * k))) 0), (f_X7_copy w 0 (85 + (85 * k))), (upd isK k.toNatClampNeg 1))
abbrev rm_X7_keep : Room := { frames := 1, cells := 0, slots := 0, locals := 25 }
set_option maxRecDepth 100000 in
set_option maxHeartbeats 4000000 in
theorem k_X7_keep (l : Launch) (D : va_G) (cI cZ : ClassId) (u : Nat → Nat) (w : Nat → Int32) (told : Nat → Int32) (read : Nat → Int32) (isK : Nat → Int32) (undoes : Int32) (text : Nat → Int32) (texted : Int32) (seen : Int32) (seS : Nat → Int32) (seB : Nat → Int32) (seP : Nat → Int32) (at_ : Int32) (start : Int32) (clauses : Int32) (number : Int32) (word : Int64) (k : Int32) : CI l D (kTy cI cZ) kT yX7_keep (.code yX7_keep cX7_keep 2 (some .int) :: wsL_law) rm_X7_keep [.ref (u 0), .int k] (wM cI cZ u w told read isK undoes text texted seen seS seB seP at_ start clauses number word) (wM cI cZ u ((f_X7_keep w isK k).2.1) told read ((f_X7_keep w isK k).2.2) undoes text texted seen seS seB seP at_ start clauses number word) ((f_X7_keep w isK k).1) := by
  refine CI.of (cc := cX7_keep) (maxL := 2) (ty := .int) (by decide) rfl (Nat.le_of_ble_eq_true rfl) rfl ?_
  intro p e s m args below meth c A Q ls hx hb hml hts0 hown hA hP hK hD hE hl hret
  have hts : ∀ w ∈ wsL_law, w.before args s = true := fun w h => hts0 w (List.mem_cons_of_mem _ h)
  clear hts0
  have hown : s.vm.findClass RX7 = some m.cls := hown
  have hl : lv_has ls 2 [(0, .ref (u 0)), (1, .int k)] := hl
  have hS : va_S A s.heap s.heap [] := va_S.rf
  revert hP hS
  suffices hgo : ∀ (H : Heap) (locs : List Loc), va_P D vwCl (wM cI cZ u w told read isK undoes text texted seen seS seB seP at_ start clauses number word) H → va_S A s.heap H locs → W p l e rm_X7_keep s m args below meth c H locs 0 0 Q (F0 m 0 ls []) from fun a b => hgo _ _ a b
  intro H locs hP hS
  refine lv_iload_n hx hb dX7_keep_0 rfl (lv_at hl 1 rfl) ?_
  refine lv_i2l (v := k.toInt64) hx hb dX7_keep_1 rfl ?_
  refine lv_lconst (v := 0) hx hb dX7_keep_2 (by decide) ?_
  refine lv_lconst (v := 1) hx hb dX7_keep_3 (by decide) ?_
  refine ksi (As := [.long k.toInt64, .long 0, .long 1]) (rest := []) ⟨hx, hb, hml, hown, hts⟩ hP hK hD hS hA hE (k_X7_in l D cI cZ  k.toInt64 0 1) (kcs hts kM_X7_in (kin_6 _ (List.mem_of_getElem? (i := 6) rfl)) ⟨rfl, rfl⟩ ⟨Nat.le_of_ble_eq_true rfl, Nat.le_of_ble_eq_true rfl⟩) kBl_T kOk_T rfl hl.1 rfl (Nat.le_of_ble_eq_true rfl) dX7_keep_4 (fun H locs hP hD hS => ?_)
  refine lv_if_ne (tgt := 13) hx hb dX7_keep_7 (by decide) (fun c_7 => ?_) (fun c_7 => ?_)
  · skip
    refine lv_aload_n hx hb dX7_keep_13 rfl (lv_at hl 0 rfl) ?_
    refine lv_iconst (v := 0) hx hb dX7_keep_14 (by decide) ?_
    refine lv_bipush (v := 85) hx hb dX7_keep_15 (by decide) ?_
    refine lv_bipush (v := 85) hx hb dX7_keep_17 (by decide) ?_
    refine lv_iload_n hx hb dX7_keep_19 rfl (lv_at hl 1 rfl) ?_
    refine lv_imul hx hb dX7_keep_20 ?_
    refine lv_iadd hx hb dX7_keep_21 ?_
    refine kvv (As := [.int 0, .int (85 + (85 * k))]) (rest := []) (q0 := 0) (ci := 7) ⟨hx, hb, hml, hown, hts⟩ hP hK hD hS hA hE (k_X7_copy l D cI cZ  u w told read isK undoes text texted seen seS seB seP at_ start clauses number word 0 (85 + (85 * k)) ((kb.lit 0).wide (by decide) (by decide)) ((kb.add (kb.lit 85) (kb.mul (c := 85) rfl (kinlit (h := 1) (n := 1) rfl (by decide) c_7))).wide (by decide) (by decide))) (kcv hts kM_X7_copy (kin_24 _ (List.mem_of_getElem? (i := 19) rfl)) ⟨rfl, rfl⟩ ⟨Nat.le_of_ble_eq_true rfl, Nat.le_of_ble_eq_true rfl⟩) kBl_T kOk_T (wM cI cZ u (f_X7_copy w 0 (85 + (85 * k))) told read isK undoes text texted seen seS seB seP at_ start clauses number word) (cut_m_m cI cZ u w told read isK undoes text texted seen seS seB seP at_ start clauses number word (f_X7_copy w 0 (85 + (85 * k))) told read isK undoes text texted seen seS seB seP at_ start clauses number word).1 (cut_m_m cI cZ u w told read isK undoes text texted seen seS seB seP at_ start clauses number word (f_X7_copy w 0 (85 + (85 * k))) told read isK undoes text texted seen seS seB seP at_ start clauses number word).2 rfl rfl rfl rfl hl.1 rfl (Nat.le_of_ble_eq_true rfl) dX7_keep_22 (fun H locs hP hD hS => ?_)
    refine lv_aload_n hx hb dX7_keep_25 rfl (lv_at hl 0 rfl) ?_
    refine va_get (D := D) (ci := 7) (v := .ref (u 4)) (C := RX7) (T := TX7) (N := 16) hx hb hts inlX7 hown hK hP 0 rfl rfl 3 (by decide) (kw hts kin_5 2 rfl) (fun _ h9 => h9) rfl dX7_keep_26 ?_
    refine lv_iload_n hx hb dX7_keep_29 rfl (lv_at hl 1 rfl) ?_
    refine lv_iconst (v := 1) hx hb dX7_keep_30 (by decide) ?_
    refine va_zast (cA := cZ) (n := 2) (f := isK) hx hb hK hP hD hS 4 1 rfl rfl ((kinlit (h := 1) (n := 1) rfl (by decide) c_7).in (by decide) (by decide)) dX7_keep_31 (fun H locs hP hD hS => ?_)
    have hP : va_P D vwCl (wM cI cZ u (f_X7_copy w 0 (85 + (85 * k))) told read (upd isK k.toNatClampNeg 1) undoes text texted seen seS seB seP at_ start clauses number word) H := hP
    have hD : va_D A (wM cI cZ u (f_X7_copy w 0 (85 + (85 * k))) told read (upd isK k.toNatClampNeg 1) undoes text texted seen seS seB seP at_ start clauses number word) := hD
    refine lv_aload_n hx hb dX7_keep_32 rfl (lv_at hl 0 rfl) ?_
    refine va_get (D := D) (ci := 7) (v := .ref (u 1)) (C := RX7) (T := TX7) (N := 16) hx hb hts inlX7 hown hK hP 0 rfl rfl 0 (by decide) (kw hts kin_4 22 rfl) (fun _ h9 => h9) rfl dX7_keep_33 ?_
    refine lv_iconst (v := 0) hx hb dX7_keep_36 (by decide) ?_
    refine va_iald (cA := cI) (n := 1020) (f := (f_X7_copy w 0 (85 + (85 * k)))) hx hb hK hP 1 0 rfl rfl ((kb.lit 0).in (by decide) (by decide)) dX7_keep_37 ?_
    show W p l e rm_X7_keep s m args below meth c H locs 0 0 Q (F0 m 38 ls [.int ((f_X7_copy w 0 (85 + (85 * k))) 0)])
    have hf : (f_X7_keep w isK k) = (((f_X7_copy w 0 (85 + (85 * k))) 0), (f_X7_copy w 0 (85 + (85 * k))), (upd isK k.toNatClampNeg 1)) := (if_neg c_7)
    rw [hf] at hret
    dsimp only at hret
    exact hret _ _ _ _ hP hS dX7_keep_38
  · skip
    refine lv_bipush (v := (-2)) hx hb dX7_keep_10 (by decide) ?_
    have hf : (f_X7_keep w isK k) = ((-2), w, isK) := (if_pos c_7)
    rw [hf] at hret
    dsimp only at hret
    exact hret _ _ _ _ hP hS dX7_keep_12
