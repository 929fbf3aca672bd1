def f_X7_takesRumour (read : Nat → Int32) (text : Nat → Int32) (texted : Int32) (at_ : Int32) (start : Int32) (number : Int32) : Int32 × (Nat → Int32) × Int32 × Int32 × Int32 := if (read 2) = 8 then (0, read, at_, start, number) else (if ((f_X7_takesNumber text texted at_ 0 63).1) = 0 then (0, read, (f_X7_takesNumber text texted at_ 0 63).2.1, (f_X7_takesNumber text texted at_ 0 63).2.2.1, (f_X7_takesNumber text texted at_ 0 63).2.2.2) else (1, (upd (upd read ((51 + (read 2)).toNatClampNeg) ((f_X7_takesNumber text texted at_ 0 63).2.2.2)) 2 (((upd read ((51 + (read 2)).toNatClampNeg) ((f_X7_takesNumber text texted at_ 0 63).2.2.2)) 2) + 1)), (f_X7_takesNumber text texted at_ 0 63).2.1, (f_X7_takesNumber text texted at_ 0 63).2.2.1, (f_X7_takesNumber text texted at_ 0 63).2.2.2))
abbrev rm_X7_takesRumour : Room := { frames := 3, cells := 0, slots := 0, locals := 68 }
theorem b01_X7_takesRumour (read text : Nat → Int32) (texted at_ start number : Int32) : (f_X7_takesRumour read text texted at_ start number).1 = 0 ∨ (f_X7_takesRumour read text texted at_ start number).1 = 1 := by
  unfold f_X7_takesRumour
  (repeat' split) <;> first | exact Or.inl rfl | exact Or.inr rfl
theorem e_X7_takesRumour (read text : Nat → Int32) {texted at_ : Int32} (start number : Int32) (hk : kat at_ texted) : kat (f_X7_takesRumour read text texted at_ start number).2.2.1 texted := by
  unfold f_X7_takesRumour
  split
  · exact hk
  · split <;> (dsimp only; exact e_X7_takesNumber text hk)
theorem r_X7_takesRumour {read : Nat → Int32} (text : Nat → Int32) (texted at_ start number : Int32) (hr : krd read) : krd (f_X7_takesRumour read text texted at_ start number).2.1 := by
  unfold f_X7_takesRumour
  split
  · exact hr
  · rename_i c
    split
    · exact hr
    · dsimp only
      generalize (f_X7_takesNumber text texted at_ 0 63).2.2.2 = v
      obtain ⟨a, a1, a2, e⟩ := kne (n := 8) hr.2 (by decide) c
      have e2 : (51 + read 2).toNatClampNeg = 51 + a := by
        rw [e, show (51 + nI a : Int32) = nI (51 + a) from nI_add 51 a, nI_clamp (by omega)]
      rw [e2]
      refine ⟨?_, ?_⟩
      · rw [pk_un (by decide), pk_un (by omega)]
        exact hr.1
      · rw [pk_us, pk_un (by omega), e, nI_1]
        exact ⟨a + 1, by omega, by omega, rfl⟩
set_option maxRecDepth 100000 in
set_option maxHeartbeats 4000000 in
theorem k_X7_takesRumour (l : Launch) (D : va_G) (cI cZ : ClassId) (u : Nat → Nat) (w : Nat → Int32) (told : Nat → Int32) (read : Nat → Int32) (isK : Nat → Int32) (undoes : Int32) (text : Nat → Int32) (texted : Int32) (seen : Int32) (seS : Nat → Int32) (seB : Nat → Int32) (seP : Nat → Int32) (at_ : Int32) (start : Int32) (clauses : Int32) (number : Int32) (word : Int64) (hk : kat at_ texted) (hr : krd read) : CI l D (kTy cI cZ) kT yX7_takesRumour (.code yX7_takesRumour cX7_takesRumour 1 (some .boolean) :: wsL_law) rm_X7_takesRumour [.ref (u 0)] (wM cI cZ u w told read isK undoes text texted seen seS seB seP at_ start clauses number word) (wM cI cZ u w told ((f_X7_takesRumour read text texted at_ start number).2.1) isK undoes text texted seen seS seB seP ((f_X7_takesRumour read text texted at_ start number).2.2.1) ((f_X7_takesRumour read text texted at_ start number).2.2.2.1) clauses ((f_X7_takesRumour read text texted at_ start number).2.2.2.2) word) ((f_X7_takesRumour read text texted at_ start number).1) := by
  refine CI.of (cc := cX7_takesRumour) (maxL := 1) (ty := .boolean) (by decide) rfl (Nat.le_of_ble_eq_true rfl) (knb (b01_X7_takesRumour read text texted at_ start number)) ?_
  intro p e s m args below meth c A Q ls hx hb hml hts0 hown hA hP hK hD hE hl hret
  have hts : ∀ w ∈ wsL_law, w.before args s = true := fun w h => hts0 w (List.mem_cons_of_mem _ h)
  clear hts0
  have hown : s.vm.findClass RX7 = some m.cls := hown
  have hl : lv_has ls 1 [(0, .ref (u 0))] := hl
  have hS : va_S A s.heap s.heap [] := va_S.rf
  revert hP hS
  suffices hgo : ∀ (H : Heap) (locs : List Loc), va_P D vwCl (wM cI cZ u w told read isK undoes text texted seen seS seB seP at_ start clauses number word) H → va_S A s.heap H locs → W p l e rm_X7_takesRumour s m args below meth c H locs 0 0 Q (F0 m 0 ls []) from fun a b => hgo _ _ a b
  intro H locs hP hS
  refine lv_aload_n hx hb dX7_takesRumour_0 rfl (lv_at hl 0 rfl) ?_
  refine va_get (D := D) (ci := 7) (v := .ref (u 3)) (C := RX7) (T := TX7) (N := 16) hx hb hts inlX7 hown hK hP 0 rfl rfl 2 (by decide) (kw hts kin_5 0 rfl) (fun _ h9 => h9) rfl dX7_takesRumour_1 ?_
  refine lv_iconst (v := 2) hx hb dX7_takesRumour_4 (by decide) ?_
  refine va_iald (cA := cI) (n := 59) (f := read) hx hb hK hP 3 0 rfl rfl ((kb.lit 2).in (by decide) (by decide)) dX7_takesRumour_5 ?_
  show W p l e rm_X7_takesRumour s m args below meth c H locs 0 0 Q (F0 m 6 ls [.int (read 2)])
  refine lv_bipush (v := 8) hx hb dX7_takesRumour_6 (by decide) ?_
  refine lv_icmp_eq (tgt := 21) hx hb dX7_takesRumour_8 (by decide) (fun c_8 => ?_) (fun c_8 => ?_)
  · skip
    refine lv_iconst (v := 0) hx hb dX7_takesRumour_21 (by decide) ?_
    have hf : (f_X7_takesRumour read text texted at_ start number) = (0, read, at_, start, number) := (if_pos c_8)
    rw [hf] at hret
    dsimp only at hret
    exact hret _ _ _ _ hP hS dX7_takesRumour_22
  · skip
    refine lv_aload_n hx hb dX7_takesRumour_11 rfl (lv_at hl 0 rfl) ?_
    refine lv_iconst (v := 0) hx hb dX7_takesRumour_12 (by decide) ?_
    refine lv_bipush (v := 63) hx hb dX7_takesRumour_13 (by decide) ?_
    refine kvi (As := [.int 0, .int 63]) (rest := []) (q0 := 0) (ci := 7) ⟨hx, hb, hml, hown, hts⟩ hP hK hD hS hA hE (k_X7_takesNumber l D cI cZ  u w told read isK undoes text texted seen seS seB seP at_ start clauses number word 0 63 (hk)) (kcv hts kM_X7_takesNumber (kin_13 _ (List.mem_of_getElem? (i := 6) rfl)) ⟨rfl, rfl⟩ ⟨Nat.le_of_ble_eq_true rfl, Nat.le_of_ble_eq_true rfl⟩) kBl_T kOk_T (wM cI cZ u w told read isK undoes text texted seen seS seB seP ((f_X7_takesNumber text texted at_ 0 63).2.1) ((f_X7_takesNumber text texted at_ 0 63).2.2.1) clauses ((f_X7_takesNumber text texted at_ 0 63).2.2.2) word) (cut_m_m cI cZ u w told read isK undoes text texted seen seS seB seP at_ start clauses number word w told read isK undoes text texted seen seS seB seP ((f_X7_takesNumber text texted at_ 0 63).2.1) ((f_X7_takesNumber text texted at_ 0 63).2.2.1) clauses ((f_X7_takesNumber text texted at_ 0 63).2.2.2) word).1 (cut_m_m cI cZ u w told read isK undoes text texted seen seS seB seP at_ start clauses number word w told read isK undoes text texted seen seS seB seP ((f_X7_takesNumber text texted at_ 0 63).2.1) ((f_X7_takesNumber text texted at_ 0 63).2.2.1) clauses ((f_X7_takesNumber text texted at_ 0 63).2.2.2) word).2 rfl rfl rfl rfl hl.1 rfl (Nat.le_of_ble_eq_true rfl) dX7_takesRumour_15 (fun H locs hP hD hS => ?_)
    refine lv_if_ne (tgt := 23) hx hb dX7_takesRumour_18 (by decide) (fun c_18 => ?_) (fun c_18 => ?_)
    · skip
      refine lv_aload_n hx hb dX7_takesRumour_23 rfl (lv_at hl 0 rfl) ?_
      refine va_get (D := D) (ci := 7) (v := .ref (u 3)) (C := RX7) (T := TX7) (N := 16) hx hb hts inlX7 hown hK hP 0 rfl rfl 2 (by decide) (kw hts kin_5 0 rfl) (fun _ h9 => h9) rfl dX7_takesRumour_24 ?_
      refine lv_bipush (v := 51) hx hb dX7_takesRumour_27 (by decide) ?_
      refine lv_aload_n hx hb dX7_takesRumour_29 rfl (lv_at hl 0 rfl) ?_
      refine va_get (D := D) (ci := 7) (v := .ref (u 3)) (C := RX7) (T := TX7) (N := 16) hx hb hts inlX7 hown hK hP 0 rfl rfl 2 (by decide) (kw hts kin_5 0 rfl) (fun _ h9 => h9) rfl dX7_takesRumour_30 ?_
      refine lv_iconst (v := 2) hx hb dX7_takesRumour_33 (by decide) ?_
      refine va_iald (cA := cI) (n := 59) (f := read) hx hb hK hP 3 0 rfl rfl ((kb.lit 2).in (by decide) (by decide)) dX7_takesRumour_34 ?_
      show W p l e rm_X7_takesRumour s m args below meth c H locs 0 0 Q (F0 m 35 ls [.int (read 2), .int 51, .ref (u 3)])
      refine lv_iadd hx hb dX7_takesRumour_35 ?_
      refine lv_aload_n hx hb dX7_takesRumour_36 rfl (lv_at hl 0 rfl) ?_
      refine va_get (D := D) (ci := 7) (v := .int ((f_X7_takesNumber text texted at_ 0 63).2.2.2)) (C := RX7) (T := TX7) (N := 16) hx hb hts inlX7 hown hK hP 0 rfl rfl 14 (by decide) (kw hts kin_13 5 rfl) (fun _ h9 => h9) rfl dX7_takesRumour_37 ?_
      refine va_iast (cA := cI) (n := 59) (f := read) hx hb hK hP hD hS 3 0 rfl rfl ((kb.add (kb.lit 51) (kne (hr).2 (by decide) c_8)).in (by decide) (by decide)) dX7_takesRumour_40 (fun H locs hP hD hS => ?_)
      have hP : va_P D vwCl (wM cI cZ u w told (upd read ((51 + (read 2)).toNatClampNeg) ((f_X7_takesNumber text texted at_ 0 63).2.2.2)) isK undoes text texted seen seS seB seP ((f_X7_takesNumber text texted at_ 0 63).2.1) ((f_X7_takesNumber text texted at_ 0 63).2.2.1) clauses ((f_X7_takesNumber text texted at_ 0 63).2.2.2) word) H := hP
      have hD : va_D A (wM cI cZ u w told (upd read ((51 + (read 2)).toNatClampNeg) ((f_X7_takesNumber text texted at_ 0 63).2.2.2)) isK undoes text texted seen seS seB seP ((f_X7_takesNumber text texted at_ 0 63).2.1) ((f_X7_takesNumber text texted at_ 0 63).2.2.1) clauses ((f_X7_takesNumber text texted at_ 0 63).2.2.2) word) := hD
      refine lv_aload_n hx hb dX7_takesRumour_41 rfl (lv_at hl 0 rfl) ?_
      refine va_get (D := D) (ci := 7) (v := .ref (u 3)) (C := RX7) (T := TX7) (N := 16) hx hb hts inlX7 hown hK hP 0 rfl rfl 2 (by decide) (kw hts kin_5 0 rfl) (fun _ h9 => h9) rfl dX7_takesRumour_42 ?_
      refine lv_iconst (v := 2) hx hb dX7_takesRumour_45 (by decide) ?_
      refine lv_dup2_11 hx hb dX7_takesRumour_46 rfl rfl ?_
      refine va_iald (cA := cI) (n := 59) (f := (upd read ((51 + (read 2)).toNatClampNeg) ((f_X7_takesNumber text texted at_ 0 63).2.2.2))) hx hb hK hP 3 0 rfl rfl ((kb.lit 2).in (by decide) (by decide)) dX7_takesRumour_47 ?_
      show W p l e rm_X7_takesRumour s m args below meth c H locs 0 0 Q (F0 m 48 ls [.int ((upd read ((51 + (read 2)).toNatClampNeg) ((f_X7_takesNumber text texted at_ 0 63).2.2.2)) 2), .int 2, .ref (u 3)])
      refine lv_iconst (v := 1) hx hb dX7_takesRumour_48 (by decide) ?_
      refine lv_iadd hx hb dX7_takesRumour_49 ?_
      refine va_iast (cA := cI) (n := 59) (f := (upd read ((51 + (read 2)).toNatClampNeg) ((f_X7_takesNumber text texted at_ 0 63).2.2.2))) hx hb hK hP hD hS 3 0 rfl rfl ((kb.lit 2).in (by decide) (by decide)) dX7_takesRumour_50 (fun H locs hP hD hS => ?_)
      have hP : va_P D vwCl (wM cI cZ u w told (upd (upd read ((51 + (read 2)).toNatClampNeg) ((f_X7_takesNumber text texted at_ 0 63).2.2.2)) 2 (((upd read ((51 + (read 2)).toNatClampNeg) ((f_X7_takesNumber text texted at_ 0 63).2.2.2)) 2) + 1)) isK undoes text texted seen seS seB seP ((f_X7_takesNumber text texted at_ 0 63).2.1) ((f_X7_takesNumber text texted at_ 0 63).2.2.1) clauses ((f_X7_takesNumber text texted at_ 0 63).2.2.2) word) H := hP
      have hD : va_D A (wM cI cZ u w told (upd (upd read ((51 + (read 2)).toNatClampNeg) ((f_X7_takesNumber text texted at_ 0 63).2.2.2)) 2 (((upd read ((51 + (read 2)).toNatClampNeg) ((f_X7_takesNumber text texted at_ 0 63).2.2.2)) 2) + 1)) isK undoes text texted seen seS seB seP ((f_X7_takesNumber text texted at_ 0 63).2.1) ((f_X7_takesNumber text texted at_ 0 63).2.2.1) clauses ((f_X7_takesNumber text texted at_ 0 63).2.2.2) word) := hD
      refine lv_iconst (v := 1) hx hb dX7_takesRumour_51 (by decide) ?_
      have hf : (f_X7_takesRumour read text texted at_ start number) = (1, (upd (upd read ((51 + (read 2)).toNatClampNeg) ((f_X7_takesNumber text texted at_ 0 63).2.2.2)) 2 (((upd read ((51 + (read 2)).toNatClampNeg) ((f_X7_takesNumber text texted at_ 0 63).2.2.2)) 2) + 1)), (f_X7_takesNumber text texted at_ 0 63).2.1, (f_X7_takesNumber text texted at_ 0 63).2.2.1, (f_X7_takesNumber text texted at_ 0 63).2.2.2) := ((if_neg c_8).trans (if_neg c_18))
      rw [hf] at hret
      dsimp only at hret
      exact hret _ _ _ _ hP hS dX7_takesRumour_52
    · skip
      refine lv_iconst (v := 0) hx hb dX7_takesRumour_21 (by decide) ?_
      have hf : (f_X7_takesRumour read text texted at_ start number) = (0, read, (f_X7_takesNumber text texted at_ 0 63).2.1, (f_X7_takesNumber text texted at_ 0 63).2.2.1, (f_X7_takesNumber text texted at_ 0 63).2.2.2) := ((if_neg c_8).trans (if_pos c_18))
      rw [hf] at hret
      dsimp only at hret
      exact hret _ _ _ _ hP hS dX7_takesRumour_22
