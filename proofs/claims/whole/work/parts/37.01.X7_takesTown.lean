def f_X7_takesTown (read : Nat → Int32) (text : Nat → Int32) (texted : Int32) (at_ : Int32) : Int32 × (Nat → Int32) × Int32 × Int32 × Int32 := if ((f_X7_takesNumber text texted at_ 1 4).1) = 0 then (0, read, (f_X7_takesNumber text texted at_ 1 4).2.1, (f_X7_takesNumber text texted at_ 1 4).2.2.1, (f_X7_takesNumber text texted at_ 1 4).2.2.2) else (1, (upd (upd (upd read 0 ((f_X7_takesNumber text texted at_ 1 4).2.2.2)) 1 0) 2 0), (f_X7_takesNumber text texted at_ 1 4).2.1, (f_X7_takesNumber text texted at_ 1 4).2.2.1, (f_X7_takesNumber text texted at_ 1 4).2.2.2)
abbrev rm_X7_takesTown : Room := { frames := 3, cells := 0, slots := 0, locals := 68 }
theorem b01_X7_takesTown (read text : Nat → Int32) (texted at_ : Int32) : (f_X7_takesTown read text texted at_).1 = 0 ∨ (f_X7_takesTown read text texted at_).1 = 1 := by
  unfold f_X7_takesTown
  (repeat' split) <;> first | exact Or.inl rfl | exact Or.inr rfl
theorem e_X7_takesTown (read text : Nat → Int32) {texted at_ : Int32} (hk : kat at_ texted) : kat (f_X7_takesTown read text texted at_).2.2.1 texted := by
  unfold f_X7_takesTown
  split <;> (dsimp only; exact e_X7_takesNumber text hk)
theorem r_X7_takesTown {read : Nat → Int32} (text : Nat → Int32) (texted at_ : Int32) (hr : krd read) : krd (f_X7_takesTown read text texted at_).2.1 := by
  unfold f_X7_takesTown
  split
  · exact hr
  · refine ⟨?_, ?_⟩
    · exact (show kb 0 0 7 from ⟨0, by omega, by omega, rfl⟩)
    · exact (show kb 0 0 9 from ⟨0, by omega, by omega, rfl⟩)
set_option maxRecDepth 100000 in
set_option maxHeartbeats 4000000 in
theorem k_X7_takesTown (l : Launch) (D : va_G) (cI cZ : ClassId) (u : Nat → Nat) (w : Nat → Int32) (told : Nat → Int32) (read : Nat → Int32) (isK : Nat → Int32) (undoes : Int32) (text : Nat → Int32) (texted : Int32) (seen : Int32) (seS : Nat → Int32) (seB : Nat → Int32) (seP : Nat → Int32) (at_ : Int32) (start : Int32) (clauses : Int32) (number : Int32) (word : Int64) (hk : kat at_ texted) (hr : krd read) : CI l D (kTy cI cZ) kT yX7_takesTown (.code yX7_takesTown cX7_takesTown 1 (some .boolean) :: wsL_law) rm_X7_takesTown [.ref (u 0)] (wM cI cZ u w told read isK undoes text texted seen seS seB seP at_ start clauses number word) (wM cI cZ u w told ((f_X7_takesTown read text texted at_).2.1) isK undoes text texted seen seS seB seP ((f_X7_takesTown read text texted at_).2.2.1) ((f_X7_takesTown read text texted at_).2.2.2.1) clauses ((f_X7_takesTown read text texted at_).2.2.2.2) word) ((f_X7_takesTown read text texted at_).1) := by
  refine CI.of (cc := cX7_takesTown) (maxL := 1) (ty := .boolean) (by decide) rfl (Nat.le_of_ble_eq_true rfl) (knb (b01_X7_takesTown read text texted at_)) ?_
  intro p e s m args below meth c A Q ls hx hb hml hts0 hown hA hP hK hD hE hl hret
  have hts : ∀ w ∈ wsL_law, w.before args s = true := fun w h => hts0 w (List.mem_cons_of_mem _ h)
  clear hts0
  have hown : s.vm.findClass RX7 = some m.cls := hown
  have hl : lv_has ls 1 [(0, .ref (u 0))] := hl
  have hS : va_S A s.heap s.heap [] := va_S.rf
  revert hP hS
  suffices hgo : ∀ (H : Heap) (locs : List Loc), va_P D vwCl (wM cI cZ u w told read isK undoes text texted seen seS seB seP at_ start clauses number word) H → va_S A s.heap H locs → W p l e rm_X7_takesTown s m args below meth c H locs 0 0 Q (F0 m 0 ls []) from fun a b => hgo _ _ a b
  intro H locs hP hS
  refine lv_aload_n hx hb dX7_takesTown_0 rfl (lv_at hl 0 rfl) ?_
  refine lv_iconst (v := 1) hx hb dX7_takesTown_1 (by decide) ?_
  refine lv_iconst (v := 4) hx hb dX7_takesTown_2 (by decide) ?_
  refine kvi (As := [.int 1, .int 4]) (rest := []) (q0 := 0) (ci := 7) ⟨hx, hb, hml, hown, hts⟩ hP hK hD hS hA hE (k_X7_takesNumber l D cI cZ  u w told read isK undoes text texted seen seS seB seP at_ start clauses number word 1 4 (hk)) (kcv hts kM_X7_takesNumber (kin_13 _ (List.mem_of_getElem? (i := 6) rfl)) ⟨rfl, rfl⟩ ⟨Nat.le_of_ble_eq_true rfl, Nat.le_of_ble_eq_true rfl⟩) kBl_T kOk_T (wM cI cZ u w told read isK undoes text texted seen seS seB seP ((f_X7_takesNumber text texted at_ 1 4).2.1) ((f_X7_takesNumber text texted at_ 1 4).2.2.1) clauses ((f_X7_takesNumber text texted at_ 1 4).2.2.2) word) (cut_m_m cI cZ u w told read isK undoes text texted seen seS seB seP at_ start clauses number word w told read isK undoes text texted seen seS seB seP ((f_X7_takesNumber text texted at_ 1 4).2.1) ((f_X7_takesNumber text texted at_ 1 4).2.2.1) clauses ((f_X7_takesNumber text texted at_ 1 4).2.2.2) word).1 (cut_m_m cI cZ u w told read isK undoes text texted seen seS seB seP at_ start clauses number word w told read isK undoes text texted seen seS seB seP ((f_X7_takesNumber text texted at_ 1 4).2.1) ((f_X7_takesNumber text texted at_ 1 4).2.2.1) clauses ((f_X7_takesNumber text texted at_ 1 4).2.2.2) word).2 rfl rfl rfl rfl hl.1 rfl (Nat.le_of_ble_eq_true rfl) dX7_takesTown_3 (fun H locs hP hD hS => ?_)
  refine lv_if_ne (tgt := 11) hx hb dX7_takesTown_6 (by decide) (fun c_6 => ?_) (fun c_6 => ?_)
  · skip
    refine lv_aload_n hx hb dX7_takesTown_11 rfl (lv_at hl 0 rfl) ?_
    refine va_get (D := D) (ci := 7) (v := .ref (u 3)) (C := RX7) (T := TX7) (N := 16) hx hb hts inlX7 hown hK hP 0 rfl rfl 2 (by decide) (kw hts kin_5 0 rfl) (fun _ h9 => h9) rfl dX7_takesTown_12 ?_
    refine lv_iconst (v := 0) hx hb dX7_takesTown_15 (by decide) ?_
    refine lv_aload_n hx hb dX7_takesTown_16 rfl (lv_at hl 0 rfl) ?_
    refine va_get (D := D) (ci := 7) (v := .int ((f_X7_takesNumber text texted at_ 1 4).2.2.2)) (C := RX7) (T := TX7) (N := 16) hx hb hts inlX7 hown hK hP 0 rfl rfl 14 (by decide) (kw hts kin_13 5 rfl) (fun _ h9 => h9) rfl dX7_takesTown_17 ?_
    refine va_iast (cA := cI) (n := 59) (f := read) hx hb hK hP hD hS 3 0 rfl rfl ((kb.lit 0).in (by decide) (by decide)) dX7_takesTown_20 (fun H locs hP hD hS => ?_)
    have hP : va_P D vwCl (wM cI cZ u w told (upd read 0 ((f_X7_takesNumber text texted at_ 1 4).2.2.2)) isK undoes text texted seen seS seB seP ((f_X7_takesNumber text texted at_ 1 4).2.1) ((f_X7_takesNumber text texted at_ 1 4).2.2.1) clauses ((f_X7_takesNumber text texted at_ 1 4).2.2.2) word) H := hP
    have hD : va_D A (wM cI cZ u w told (upd read 0 ((f_X7_takesNumber text texted at_ 1 4).2.2.2)) isK undoes text texted seen seS seB seP ((f_X7_takesNumber text texted at_ 1 4).2.1) ((f_X7_takesNumber text texted at_ 1 4).2.2.1) clauses ((f_X7_takesNumber text texted at_ 1 4).2.2.2) word) := hD
    refine lv_aload_n hx hb dX7_takesTown_21 rfl (lv_at hl 0 rfl) ?_
    refine va_get (D := D) (ci := 7) (v := .ref (u 3)) (C := RX7) (T := TX7) (N := 16) hx hb hts inlX7 hown hK hP 0 rfl rfl 2 (by decide) (kw hts kin_5 0 rfl) (fun _ h9 => h9) rfl dX7_takesTown_22 ?_
    refine lv_iconst (v := 1) hx hb dX7_takesTown_25 (by decide) ?_
    refine lv_iconst (v := 0) hx hb dX7_takesTown_26 (by decide) ?_
    refine va_iast (cA := cI) (n := 59) (f := (upd read 0 ((f_X7_takesNumber text texted at_ 1 4).2.2.2))) hx hb hK hP hD hS 3 0 rfl rfl ((kb.lit 1).in (by decide) (by decide)) dX7_takesTown_27 (fun H locs hP hD hS => ?_)
    have hP : va_P D vwCl (wM cI cZ u w told (upd (upd read 0 ((f_X7_takesNumber text texted at_ 1 4).2.2.2)) 1 0) isK undoes text texted seen seS seB seP ((f_X7_takesNumber text texted at_ 1 4).2.1) ((f_X7_takesNumber text texted at_ 1 4).2.2.1) clauses ((f_X7_takesNumber text texted at_ 1 4).2.2.2) word) H := hP
    have hD : va_D A (wM cI cZ u w told (upd (upd read 0 ((f_X7_takesNumber text texted at_ 1 4).2.2.2)) 1 0) isK undoes text texted seen seS seB seP ((f_X7_takesNumber text texted at_ 1 4).2.1) ((f_X7_takesNumber text texted at_ 1 4).2.2.1) clauses ((f_X7_takesNumber text texted at_ 1 4).2.2.2) word) := hD
    refine lv_aload_n hx hb dX7_takesTown_28 rfl (lv_at hl 0 rfl) ?_
    refine va_get (D := D) (ci := 7) (v := .ref (u 3)) (C := RX7) (T := TX7) (N := 16) hx hb hts inlX7 hown hK hP 0 rfl rfl 2 (by decide) (kw hts kin_5 0 rfl) (fun _ h9 => h9) rfl dX7_takesTown_29 ?_
    refine lv_iconst (v := 2) hx hb dX7_takesTown_32 (by decide) ?_
    refine lv_iconst (v := 0) hx hb dX7_takesTown_33 (by decide) ?_
    refine va_iast (cA := cI) (n := 59) (f := (upd (upd read 0 ((f_X7_takesNumber text texted at_ 1 4).2.2.2)) 1 0)) hx hb hK hP hD hS 3 0 rfl rfl ((kb.lit 2).in (by decide) (by decide)) dX7_takesTown_34 (fun H locs hP hD hS => ?_)
    have hP : va_P D vwCl (wM cI cZ u w told (upd (upd (upd read 0 ((f_X7_takesNumber text texted at_ 1 4).2.2.2)) 1 0) 2 0) isK undoes text texted seen seS seB seP ((f_X7_takesNumber text texted at_ 1 4).2.1) ((f_X7_takesNumber text texted at_ 1 4).2.2.1) clauses ((f_X7_takesNumber text texted at_ 1 4).2.2.2) word) H := hP
    have hD : va_D A (wM cI cZ u w told (upd (upd (upd read 0 ((f_X7_takesNumber text texted at_ 1 4).2.2.2)) 1 0) 2 0) isK undoes text texted seen seS seB seP ((f_X7_takesNumber text texted at_ 1 4).2.1) ((f_X7_takesNumber text texted at_ 1 4).2.2.1) clauses ((f_X7_takesNumber text texted at_ 1 4).2.2.2) word) := hD
    refine lv_iconst (v := 1) hx hb dX7_takesTown_35 (by decide) ?_
    have hf : (f_X7_takesTown read text texted at_) = (1, (upd (upd (upd read 0 ((f_X7_takesNumber text texted at_ 1 4).2.2.2)) 1 0) 2 0), (f_X7_takesNumber text texted at_ 1 4).2.1, (f_X7_takesNumber text texted at_ 1 4).2.2.1, (f_X7_takesNumber text texted at_ 1 4).2.2.2) := (if_neg c_6)
    rw [hf] at hret
    dsimp only at hret
    exact hret _ _ _ _ hP hS dX7_takesTown_36
  · skip
    refine lv_iconst (v := 0) hx hb dX7_takesTown_9 (by decide) ?_
    have hf : (f_X7_takesTown read text texted at_) = (0, read, (f_X7_takesNumber text texted at_ 1 4).2.1, (f_X7_takesNumber text texted at_ 1 4).2.2.1, (f_X7_takesNumber text texted at_ 1 4).2.2.2) := (if_pos c_6)
    rw [hf] at hret
    dsimp only at hret
    exact hret _ _ _ _ hP hS dX7_takesTown_10
