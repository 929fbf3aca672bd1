def f_X7_takesBeard (read : Nat → Int32) (text : Nat → Int32) (texted : Int32) (at_ : Int32) : Int32 × (Nat → Int32) × Int32 × Int32 × Int32 := if ((f_X7_takesNumber text texted at_ 0 ((read 1) - 1)).1) = 0 then (0, read, (f_X7_takesNumber text texted at_ 0 ((read 1) - 1)).2.1, (f_X7_takesNumber text texted at_ 0 ((read 1) - 1)).2.2.1, (f_X7_takesNumber text texted at_ 0 ((read 1) - 1)).2.2.2) else (if ((f_X7_takesNumber text texted ((f_X7_takesNumber text texted at_ 0 ((read 1) - 1)).2.1) 0 5).1) = 0 then (0, read, (f_X7_takesNumber text texted ((f_X7_takesNumber text texted at_ 0 ((read 1) - 1)).2.1) 0 5).2.1, (f_X7_takesNumber text texted ((f_X7_takesNumber text texted at_ 0 ((read 1) - 1)).2.1) 0 5).2.2.1, (f_X7_takesNumber text texted ((f_X7_takesNumber text texted at_ 0 ((read 1) - 1)).2.1) 0 5).2.2.2) else (if ((f_X7_takesNumber text texted ((f_X7_takesNumber text texted ((f_X7_takesNumber text texted at_ 0 ((read 1) - 1)).2.1) 0 5).2.1) 0 9).1) = 0 then (0, read, (f_X7_takesNumber text texted ((f_X7_takesNumber text texted ((f_X7_takesNumber text texted at_ 0 ((read 1) - 1)).2.1) 0 5).2.1) 0 9).2.1, (f_X7_takesNumber text texted ((f_X7_takesNumber text texted ((f_X7_takesNumber text texted at_ 0 ((read 1) - 1)).2.1) 0 5).2.1) 0 9).2.2.1, (f_X7_takesNumber text texted ((f_X7_takesNumber text texted ((f_X7_takesNumber text texted at_ 0 ((read 1) - 1)).2.1) 0 5).2.1) 0 9).2.2.2) else (1, (upd read (((15 + (6 * ((f_X7_takesNumber text texted at_ 0 ((read 1) - 1)).2.2.2))) + ((f_X7_takesNumber text texted ((f_X7_takesNumber text texted at_ 0 ((read 1) - 1)).2.1) 0 5).2.2.2)).toNatClampNeg) ((f_X7_takesNumber text texted ((f_X7_takesNumber text texted ((f_X7_takesNumber text texted at_ 0 ((read 1) - 1)).2.1) 0 5).2.1) 0 9).2.2.2)), (f_X7_takesNumber text texted ((f_X7_takesNumber text texted ((f_X7_takesNumber text texted at_ 0 ((read 1) - 1)).2.1) 0 5).2.1) 0 9).2.1, (f_X7_takesNumber text texted ((f_X7_takesNumber text texted ((f_X7_takesNumber text texted at_ 0 ((read 1) - 1)).2.1) 0 5).2.1) 0 9).2.2.1, (f_X7_takesNumber text texted ((f_X7_takesNumber text texted ((f_X7_takesNumber text texted at_ 0 ((read 1) - 1)).2.1) 0 5).2.1) 0 9).2.2.2)))
abbrev rm_X7_takesBeard : Room := { frames := 3, cells := 0, slots := 0, locals := 68 }
theorem b01_X7_takesBeard (read text : Nat → Int32) (texted at_ : Int32) : (f_X7_takesBeard read text texted at_).1 = 0 ∨ (f_X7_takesBeard read text texted at_).1 = 1 := by
  unfold f_X7_takesBeard
  (repeat' split) <;> first | exact Or.inl rfl | exact Or.inr rfl
theorem e_X7_takesBeard (read text : Nat → Int32) {texted at_ : Int32} (hk : kat at_ texted) : kat (f_X7_takesBeard read text texted at_).2.2.1 texted := by
  unfold f_X7_takesBeard
  split
  · dsimp only; exact e_X7_takesNumber text hk
  · split
    · dsimp only; exact e_X7_takesNumber text (e_X7_takesNumber text hk)
    · split <;> (dsimp only; exact e_X7_takesNumber text (e_X7_takesNumber text (e_X7_takesNumber text hk)))
theorem r_X7_takesBeard {read : Nat → Int32} (text : Nat → Int32) {texted at_ : Int32} (hr : krd read) : krd (f_X7_takesBeard read text texted at_).2.1 := by
  unfold f_X7_takesBeard
  split
  · exact hr
  · rename_i c1
    split
    · exact hr
    · rename_i c2
      split
      · exact hr
      · dsimp only
        obtain ⟨a, a1, a2, e⟩ : kb (f_X7_takesNumber text texted at_ 0 (read 1 - 1)).2.2.2 0 6 := kperson hr.1 (by decide) (e3_X7_takesNumber c1)
        obtain ⟨b, b1, b2, e3⟩ : kb (f_X7_takesNumber text texted (f_X7_takesNumber text texted at_ 0 (read 1 - 1)).2.1 0 5).2.2.2 0 6 := kinlit (h := (5 : Int32).toInt64) (n := 5) (by rw [ktl]; rfl) (by decide) (e3_X7_takesNumber c2)
        have e4 : (15 + 6 * nI a + nI b : Int32).toNatClampNeg = 15 + 6 * a + b := by
          have q1 : (6 * nI a : Int32) = nI (6 * a) := (Int32.ofNat_mul 6 a).symm
          rw [q1, show (15 + nI (6 * a) : Int32) = nI (15 + 6 * a) from nI_add 15 _, nI_add, nI_clamp (by omega)]
        rw [e, e3, e4]
        refine ⟨?_, ?_⟩
        · rw [pk_un (by omega)]; exact hr.1
        · rw [pk_un (by omega)]; exact hr.2
set_option maxRecDepth 100000 in
set_option maxHeartbeats 4000000 in
theorem k_X7_takesBeard (l : Launch) (D : va_G) (cI cZ : ClassId) (u : Nat → Nat) (w : Nat → Int32) (told : Nat → Int32) (read : Nat → Int32) (isK : Nat → Int32) (undoes : Int32) (text : Nat → Int32) (texted : Int32) (seen : Int32) (seS : Nat → Int32) (seB : Nat → Int32) (seP : Nat → Int32) (at_ : Int32) (start : Int32) (clauses : Int32) (number : Int32) (word : Int64) (hk : kat at_ texted) (hr : krd read) : CI l D (kTy cI cZ) kT yX7_takesBeard (.code yX7_takesBeard cX7_takesBeard 3 (some .boolean) :: wsL_law) rm_X7_takesBeard [.ref (u 0)] (wM cI cZ u w told read isK undoes text texted seen seS seB seP at_ start clauses number word) (wM cI cZ u w told ((f_X7_takesBeard read text texted at_).2.1) isK undoes text texted seen seS seB seP ((f_X7_takesBeard read text texted at_).2.2.1) ((f_X7_takesBeard read text texted at_).2.2.2.1) clauses ((f_X7_takesBeard read text texted at_).2.2.2.2) word) ((f_X7_takesBeard read text texted at_).1) := by
  refine CI.of (cc := cX7_takesBeard) (maxL := 3) (ty := .boolean) (by decide) rfl (Nat.le_of_ble_eq_true rfl) (knb (b01_X7_takesBeard read text texted at_)) ?_
  intro p e s m args below meth c A Q ls hx hb hml hts0 hown hA hP hK hD hE hl hret
  have hts : ∀ w ∈ wsL_law, w.before args s = true := fun w h => hts0 w (List.mem_cons_of_mem _ h)
  clear hts0
  have hown : s.vm.findClass RX7 = some m.cls := hown
  have hl : lv_has ls 3 [(0, .ref (u 0))] := hl
  have hS : va_S A s.heap s.heap [] := va_S.rf
  revert hP hS
  suffices hgo : ∀ (H : Heap) (locs : List Loc), va_P D vwCl (wM cI cZ u w told read isK undoes text texted seen seS seB seP at_ start clauses number word) H → va_S A s.heap H locs → W p l e rm_X7_takesBeard s m args below meth c H locs 0 0 Q (F0 m 0 ls []) from fun a b => hgo _ _ a b
  intro H locs hP hS
  refine lv_aload_n hx hb dX7_takesBeard_0 rfl (lv_at hl 0 rfl) ?_
  refine lv_iconst (v := 0) hx hb dX7_takesBeard_1 (by decide) ?_
  refine lv_aload_n hx hb dX7_takesBeard_2 rfl (lv_at hl 0 rfl) ?_
  refine va_get (D := D) (ci := 7) (v := .ref (u 3)) (C := RX7) (T := TX7) (N := 16) hx hb hts inlX7 hown hK hP 0 rfl rfl 2 (by decide) (kw hts kin_5 0 rfl) (fun _ h9 => h9) rfl dX7_takesBeard_3 ?_
  refine lv_iconst (v := 1) hx hb dX7_takesBeard_6 (by decide) ?_
  refine va_iald (cA := cI) (n := 59) (f := read) hx hb hK hP 3 0 rfl rfl ((kb.lit 1).in (by decide) (by decide)) dX7_takesBeard_7 ?_
  show W p l e rm_X7_takesBeard s m args below meth c H locs 0 0 Q (F0 m 8 ls [.int (read 1), .int 0, .ref (u 0)])
  refine lv_iconst (v := 1) hx hb dX7_takesBeard_8 (by decide) ?_
  refine lv_isub hx hb dX7_takesBeard_9 ?_
  refine kvi (As := [.int 0, .int ((read 1) - 1)]) (rest := []) (q0 := 0) (ci := 7) ⟨hx, hb, hml, hown, hts⟩ hP hK hD hS hA hE (k_X7_takesNumber l D cI cZ  u w told read isK undoes text texted seen seS seB seP at_ start clauses number word 0 ((read 1) - 1) (hk)) (kcv hts kM_X7_takesNumber (kin_13 _ (List.mem_of_getElem? (i := 6) rfl)) ⟨rfl, rfl⟩ ⟨Nat.le_of_ble_eq_true rfl, Nat.le_of_ble_eq_true rfl⟩) kBl_T kOk_T (wM cI cZ u w told read isK undoes text texted seen seS seB seP ((f_X7_takesNumber text texted at_ 0 ((read 1) - 1)).2.1) ((f_X7_takesNumber text texted at_ 0 ((read 1) - 1)).2.2.1) clauses ((f_X7_takesNumber text texted at_ 0 ((read 1) - 1)).2.2.2) word) (cut_m_m cI cZ u w told read isK undoes text texted seen seS seB seP at_ start clauses number word w told read isK undoes text texted seen seS seB seP ((f_X7_takesNumber text texted at_ 0 ((read 1) - 1)).2.1) ((f_X7_takesNumber text texted at_ 0 ((read 1) - 1)).2.2.1) clauses ((f_X7_takesNumber text texted at_ 0 ((read 1) - 1)).2.2.2) word).1 (cut_m_m cI cZ u w told read isK undoes text texted seen seS seB seP at_ start clauses number word w told read isK undoes text texted seen seS seB seP ((f_X7_takesNumber text texted at_ 0 ((read 1) - 1)).2.1) ((f_X7_takesNumber text texted at_ 0 ((read 1) - 1)).2.2.1) clauses ((f_X7_takesNumber text texted at_ 0 ((read 1) - 1)).2.2.2) word).2 rfl rfl rfl rfl hl.1 rfl (Nat.le_of_ble_eq_true rfl) dX7_takesBeard_10 (fun H locs hP hD hS => ?_)
  refine lv_if_ne (tgt := 18) hx hb dX7_takesBeard_13 (by decide) (fun c_13 => ?_) (fun c_13 => ?_)
  · skip
    refine lv_aload_n hx hb dX7_takesBeard_18 rfl (lv_at hl 0 rfl) ?_
    refine va_get (D := D) (ci := 7) (v := .int ((f_X7_takesNumber text texted at_ 0 ((read 1) - 1)).2.2.2)) (C := RX7) (T := TX7) (N := 16) hx hb hts inlX7 hown hK hP 0 rfl rfl 14 (by decide) (kw hts kin_13 5 rfl) (fun _ h9 => h9) rfl dX7_takesBeard_19 ?_
    refine lv_istore_n (lv' := [(1, .int ((f_X7_takesNumber text texted at_ 0 ((read 1) - 1)).2.2.2)), (0, .ref (u 0))]) hx hb dX7_takesBeard_22 rfl hl (by decide) rfl (fun ls hl => ?_)
    refine lv_aload_n hx hb dX7_takesBeard_23 rfl (lv_at hl 1 rfl) ?_
    refine lv_iconst (v := 0) hx hb dX7_takesBeard_24 (by decide) ?_
    refine lv_iconst (v := 5) hx hb dX7_takesBeard_25 (by decide) ?_
    refine kvi (As := [.int 0, .int 5]) (rest := []) (q0 := 0) (ci := 7) ⟨hx, hb, hml, hown, hts⟩ hP hK hD hS hA hE (k_X7_takesNumber l D cI cZ  u w told read isK undoes text texted seen seS seB seP ((f_X7_takesNumber text texted at_ 0 ((read 1) - 1)).2.1) ((f_X7_takesNumber text texted at_ 0 ((read 1) - 1)).2.2.1) clauses ((f_X7_takesNumber text texted at_ 0 ((read 1) - 1)).2.2.2) word 0 5 (e_X7_takesNumber text (hk))) (kcv hts kM_X7_takesNumber (kin_13 _ (List.mem_of_getElem? (i := 6) rfl)) ⟨rfl, rfl⟩ ⟨Nat.le_of_ble_eq_true rfl, Nat.le_of_ble_eq_true rfl⟩) kBl_T kOk_T (wM cI cZ u w told read isK undoes text texted seen seS seB seP ((f_X7_takesNumber text texted ((f_X7_takesNumber text texted at_ 0 ((read 1) - 1)).2.1) 0 5).2.1) ((f_X7_takesNumber text texted ((f_X7_takesNumber text texted at_ 0 ((read 1) - 1)).2.1) 0 5).2.2.1) clauses ((f_X7_takesNumber text texted ((f_X7_takesNumber text texted at_ 0 ((read 1) - 1)).2.1) 0 5).2.2.2) word) (cut_m_m cI cZ u w told read isK undoes text texted seen seS seB seP ((f_X7_takesNumber text texted at_ 0 ((read 1) - 1)).2.1) ((f_X7_takesNumber text texted at_ 0 ((read 1) - 1)).2.2.1) clauses ((f_X7_takesNumber text texted at_ 0 ((read 1) - 1)).2.2.2) word w told read isK undoes text texted seen seS seB seP ((f_X7_takesNumber text texted ((f_X7_takesNumber text texted at_ 0 ((read 1) - 1)).2.1) 0 5).2.1) ((f_X7_takesNumber text texted ((f_X7_takesNumber text texted at_ 0 ((read 1) - 1)).2.1) 0 5).2.2.1) clauses ((f_X7_takesNumber text texted ((f_X7_takesNumber text texted at_ 0 ((read 1) - 1)).2.1) 0 5).2.2.2) word).1 (cut_m_m cI cZ u w told read isK undoes text texted seen seS seB seP ((f_X7_takesNumber text texted at_ 0 ((read 1) - 1)).2.1) ((f_X7_takesNumber text texted at_ 0 ((read 1) - 1)).2.2.1) clauses ((f_X7_takesNumber text texted at_ 0 ((read 1) - 1)).2.2.2) word w told read isK undoes text texted seen seS seB seP ((f_X7_takesNumber text texted ((f_X7_takesNumber text texted at_ 0 ((read 1) - 1)).2.1) 0 5).2.1) ((f_X7_takesNumber text texted ((f_X7_takesNumber text texted at_ 0 ((read 1) - 1)).2.1) 0 5).2.2.1) clauses ((f_X7_takesNumber text texted ((f_X7_takesNumber text texted at_ 0 ((read 1) - 1)).2.1) 0 5).2.2.2) word).2 rfl rfl rfl rfl hl.1 rfl (Nat.le_of_ble_eq_true rfl) dX7_takesBeard_26 (fun H locs hP hD hS => ?_)
    refine lv_if_ne (tgt := 34) hx hb dX7_takesBeard_29 (by decide) (fun c_29 => ?_) (fun c_29 => ?_)
    · skip
      refine lv_aload_n hx hb dX7_takesBeard_34 rfl (lv_at hl 1 rfl) ?_
      refine va_get (D := D) (ci := 7) (v := .int ((f_X7_takesNumber text texted ((f_X7_takesNumber text texted at_ 0 ((read 1) - 1)).2.1) 0 5).2.2.2)) (C := RX7) (T := TX7) (N := 16) hx hb hts inlX7 hown hK hP 0 rfl rfl 14 (by decide) (kw hts kin_13 5 rfl) (fun _ h9 => h9) rfl dX7_takesBeard_35 ?_
      refine lv_istore_n (lv' := [(2, .int ((f_X7_takesNumber text texted ((f_X7_takesNumber text texted at_ 0 ((read 1) - 1)).2.1) 0 5).2.2.2)), (1, .int ((f_X7_takesNumber text texted at_ 0 ((read 1) - 1)).2.2.2)), (0, .ref (u 0))]) hx hb dX7_takesBeard_38 rfl hl (by decide) rfl (fun ls hl => ?_)
      refine lv_aload_n hx hb dX7_takesBeard_39 rfl (lv_at hl 2 rfl) ?_
      refine lv_iconst (v := 0) hx hb dX7_takesBeard_40 (by decide) ?_
      refine lv_bipush (v := 9) hx hb dX7_takesBeard_41 (by decide) ?_
      refine kvi (As := [.int 0, .int 9]) (rest := []) (q0 := 0) (ci := 7) ⟨hx, hb, hml, hown, hts⟩ hP hK hD hS hA hE (k_X7_takesNumber l D cI cZ  u w told read isK undoes text texted seen seS seB seP ((f_X7_takesNumber text texted ((f_X7_takesNumber text texted at_ 0 ((read 1) - 1)).2.1) 0 5).2.1) ((f_X7_takesNumber text texted ((f_X7_takesNumber text texted at_ 0 ((read 1) - 1)).2.1) 0 5).2.2.1) clauses ((f_X7_takesNumber text texted ((f_X7_takesNumber text texted at_ 0 ((read 1) - 1)).2.1) 0 5).2.2.2) word 0 9 (e_X7_takesNumber text (e_X7_takesNumber text (hk)))) (kcv hts kM_X7_takesNumber (kin_13 _ (List.mem_of_getElem? (i := 6) rfl)) ⟨rfl, rfl⟩ ⟨Nat.le_of_ble_eq_true rfl, Nat.le_of_ble_eq_true rfl⟩) kBl_T kOk_T (wM cI cZ u w told read isK undoes text texted seen seS seB seP ((f_X7_takesNumber text texted ((f_X7_takesNumber text texted ((f_X7_takesNumber text texted at_ 0 ((read 1) - 1)).2.1) 0 5).2.1) 0 9).2.1) ((f_X7_takesNumber text texted ((f_X7_takesNumber text texted ((f_X7_takesNumber text texted at_ 0 ((read 1) - 1)).2.1) 0 5).2.1) 0 9).2.2.1) clauses ((f_X7_takesNumber text texted ((f_X7_takesNumber text texted ((f_X7_takesNumber text texted at_ 0 ((read 1) - 1)).2.1) 0 5).2.1) 0 9).2.2.2) word) (cut_m_m cI cZ u w told read isK undoes text texted seen seS seB seP ((f_X7_takesNumber text texted ((f_X7_takesNumber text texted at_ 0 ((read 1) - 1)).2.1) 0 5).2.1) ((f_X7_takesNumber text texted ((f_X7_takesNumber text texted at_ 0 ((read 1) - 1)).2.1) 0 5).2.2.1) clauses ((f_X7_takesNumber text texted ((f_X7_takesNumber text texted at_ 0 ((read 1) - 1)).2.1) 0 5).2.2.2) word w told read isK undoes text texted seen seS seB seP ((f_X7_takesNumber text texted ((f_X7_takesNumber text texted ((f_X7_takesNumber text texted at_ 0 ((read 1) - 1)).2.1) 0 5).2.1) 0 9).2.1) ((f_X7_takesNumber text texted ((f_X7_takesNumber text texted ((f_X7_takesNumber text texted at_ 0 ((read 1) - 1)).2.1) 0 5).2.1) 0 9).2.2.1) clauses ((f_X7_takesNumber text texted ((f_X7_takesNumber text texted ((f_X7_takesNumber text texted at_ 0 ((read 1) - 1)).2.1) 0 5).2.1) 0 9).2.2.2) word).1 (cut_m_m cI cZ u w told read isK undoes text texted seen seS seB seP ((f_X7_takesNumber text texted ((f_X7_takesNumber text texted at_ 0 ((read 1) - 1)).2.1) 0 5).2.1) ((f_X7_takesNumber text texted ((f_X7_takesNumber text texted at_ 0 ((read 1) - 1)).2.1) 0 5).2.2.1) clauses ((f_X7_takesNumber text texted ((f_X7_takesNumber text texted at_ 0 ((read 1) - 1)).2.1) 0 5).2.2.2) word w told read isK undoes text texted seen seS seB seP ((f_X7_takesNumber text texted ((f_X7_takesNumber text texted ((f_X7_takesNumber text texted at_ 0 ((read 1) - 1)).2.1) 0 5).2.1) 0 9).2.1) ((f_X7_takesNumber text texted ((f_X7_takesNumber text texted ((f_X7_takesNumber text texted at_ 0 ((read 1) - 1)).2.1) 0 5).2.1) 0 9).2.2.1) clauses ((f_X7_takesNumber text texted ((f_X7_takesNumber text texted ((f_X7_takesNumber text texted at_ 0 ((read 1) - 1)).2.1) 0 5).2.1) 0 9).2.2.2) word).2 rfl rfl rfl rfl hl.1 rfl (Nat.le_of_ble_eq_true rfl) dX7_takesBeard_43 (fun H locs hP hD hS => ?_)
      refine lv_if_ne (tgt := 51) hx hb dX7_takesBeard_46 (by decide) (fun c_46 => ?_) (fun c_46 => ?_)
      · skip
        refine lv_aload_n hx hb dX7_takesBeard_51 rfl (lv_at hl 2 rfl) ?_
        refine va_get (D := D) (ci := 7) (v := .ref (u 3)) (C := RX7) (T := TX7) (N := 16) hx hb hts inlX7 hown hK hP 0 rfl rfl 2 (by decide) (kw hts kin_5 0 rfl) (fun _ h9 => h9) rfl dX7_takesBeard_52 ?_
        refine lv_bipush (v := 15) hx hb dX7_takesBeard_55 (by decide) ?_
        refine lv_bipush (v := 6) hx hb dX7_takesBeard_57 (by decide) ?_
        refine lv_iload_n hx hb dX7_takesBeard_59 rfl (lv_at hl 1 rfl) ?_
        refine lv_imul hx hb dX7_takesBeard_60 ?_
        refine lv_iadd hx hb dX7_takesBeard_61 ?_
        refine lv_iload_n hx hb dX7_takesBeard_62 rfl (lv_at hl 0 rfl) ?_
        refine lv_iadd hx hb dX7_takesBeard_63 ?_
        refine lv_aload_n hx hb dX7_takesBeard_64 rfl (lv_at hl 2 rfl) ?_
        refine va_get (D := D) (ci := 7) (v := .int ((f_X7_takesNumber text texted ((f_X7_takesNumber text texted ((f_X7_takesNumber text texted at_ 0 ((read 1) - 1)).2.1) 0 5).2.1) 0 9).2.2.2)) (C := RX7) (T := TX7) (N := 16) hx hb hts inlX7 hown hK hP 0 rfl rfl 14 (by decide) (kw hts kin_13 5 rfl) (fun _ h9 => h9) rfl dX7_takesBeard_65 ?_
        refine va_iast (cA := cI) (n := 59) (f := read) hx hb hK hP hD hS 3 0 rfl rfl ((kb.add (kb.add (kb.lit 15) (kb.mul (c := 6) rfl (kperson (hr).1 (by decide) (e3_X7_takesNumber c_13)))) (kinlit (h := (5 : Int32).toInt64) (n := 5) (by rw [ktl]; rfl) (by decide) (e3_X7_takesNumber c_29))).in (by decide) (by decide)) dX7_takesBeard_68 (fun H locs hP hD hS => ?_)
        have hP : va_P D vwCl (wM cI cZ u w told (upd read (((15 + (6 * ((f_X7_takesNumber text texted at_ 0 ((read 1) - 1)).2.2.2))) + ((f_X7_takesNumber text texted ((f_X7_takesNumber text texted at_ 0 ((read 1) - 1)).2.1) 0 5).2.2.2)).toNatClampNeg) ((f_X7_takesNumber text texted ((f_X7_takesNumber text texted ((f_X7_takesNumber text texted at_ 0 ((read 1) - 1)).2.1) 0 5).2.1) 0 9).2.2.2)) isK undoes text texted seen seS seB seP ((f_X7_takesNumber text texted ((f_X7_takesNumber text texted ((f_X7_takesNumber text texted at_ 0 ((read 1) - 1)).2.1) 0 5).2.1) 0 9).2.1) ((f_X7_takesNumber text texted ((f_X7_takesNumber text texted ((f_X7_takesNumber text texted at_ 0 ((read 1) - 1)).2.1) 0 5).2.1) 0 9).2.2.1) clauses ((f_X7_takesNumber text texted ((f_X7_takesNumber text texted ((f_X7_takesNumber text texted at_ 0 ((read 1) - 1)).2.1) 0 5).2.1) 0 9).2.2.2) word) H := hP
        have hD : va_D A (wM cI cZ u w told (upd read (((15 + (6 * ((f_X7_takesNumber text texted at_ 0 ((read 1) - 1)).2.2.2))) + ((f_X7_takesNumber text texted ((f_X7_takesNumber text texted at_ 0 ((read 1) - 1)).2.1) 0 5).2.2.2)).toNatClampNeg) ((f_X7_takesNumber text texted ((f_X7_takesNumber text texted ((f_X7_takesNumber text texted at_ 0 ((read 1) - 1)).2.1) 0 5).2.1) 0 9).2.2.2)) isK undoes text texted seen seS seB seP ((f_X7_takesNumber text texted ((f_X7_takesNumber text texted ((f_X7_takesNumber text texted at_ 0 ((read 1) - 1)).2.1) 0 5).2.1) 0 9).2.1) ((f_X7_takesNumber text texted ((f_X7_takesNumber text texted ((f_X7_takesNumber text texted at_ 0 ((read 1) - 1)).2.1) 0 5).2.1) 0 9).2.2.1) clauses ((f_X7_takesNumber text texted ((f_X7_takesNumber text texted ((f_X7_takesNumber text texted at_ 0 ((read 1) - 1)).2.1) 0 5).2.1) 0 9).2.2.2) word) := hD
        refine lv_iconst (v := 1) hx hb dX7_takesBeard_69 (by decide) ?_
        have hf : (f_X7_takesBeard read text texted at_) = (1, (upd read (((15 + (6 * ((f_X7_takesNumber text texted at_ 0 ((read 1) - 1)).2.2.2))) + ((f_X7_takesNumber text texted ((f_X7_takesNumber text texted at_ 0 ((read 1) - 1)).2.1) 0 5).2.2.2)).toNatClampNeg) ((f_X7_takesNumber text texted ((f_X7_takesNumber text texted ((f_X7_takesNumber text texted at_ 0 ((read 1) - 1)).2.1) 0 5).2.1) 0 9).2.2.2)), (f_X7_takesNumber text texted ((f_X7_takesNumber text texted ((f_X7_takesNumber text texted at_ 0 ((read 1) - 1)).2.1) 0 5).2.1) 0 9).2.1, (f_X7_takesNumber text texted ((f_X7_takesNumber text texted ((f_X7_takesNumber text texted at_ 0 ((read 1) - 1)).2.1) 0 5).2.1) 0 9).2.2.1, (f_X7_takesNumber text texted ((f_X7_takesNumber text texted ((f_X7_takesNumber text texted at_ 0 ((read 1) - 1)).2.1) 0 5).2.1) 0 9).2.2.2) := ((if_neg c_13).trans ((if_neg c_29).trans (if_neg c_46)))
        rw [hf] at hret
        dsimp only at hret
        exact hret _ _ _ _ hP hS dX7_takesBeard_70
      · skip
        refine lv_iconst (v := 0) hx hb dX7_takesBeard_49 (by decide) ?_
        have hf : (f_X7_takesBeard read text texted at_) = (0, read, (f_X7_takesNumber text texted ((f_X7_takesNumber text texted ((f_X7_takesNumber text texted at_ 0 ((read 1) - 1)).2.1) 0 5).2.1) 0 9).2.1, (f_X7_takesNumber text texted ((f_X7_takesNumber text texted ((f_X7_takesNumber text texted at_ 0 ((read 1) - 1)).2.1) 0 5).2.1) 0 9).2.2.1, (f_X7_takesNumber text texted ((f_X7_takesNumber text texted ((f_X7_takesNumber text texted at_ 0 ((read 1) - 1)).2.1) 0 5).2.1) 0 9).2.2.2) := ((if_neg c_13).trans ((if_neg c_29).trans (if_pos c_46)))
        rw [hf] at hret
        dsimp only at hret
        exact hret _ _ _ _ hP hS dX7_takesBeard_50
    · skip
      refine lv_iconst (v := 0) hx hb dX7_takesBeard_32 (by decide) ?_
      have hf : (f_X7_takesBeard read text texted at_) = (0, read, (f_X7_takesNumber text texted ((f_X7_takesNumber text texted at_ 0 ((read 1) - 1)).2.1) 0 5).2.1, (f_X7_takesNumber text texted ((f_X7_takesNumber text texted at_ 0 ((read 1) - 1)).2.1) 0 5).2.2.1, (f_X7_takesNumber text texted ((f_X7_takesNumber text texted at_ 0 ((read 1) - 1)).2.1) 0 5).2.2.2) := ((if_neg c_13).trans (if_pos c_29))
      rw [hf] at hret
      dsimp only at hret
      exact hret _ _ _ _ hP hS dX7_takesBeard_33
  · skip
    refine lv_iconst (v := 0) hx hb dX7_takesBeard_16 (by decide) ?_
    have hf : (f_X7_takesBeard read text texted at_) = (0, read, (f_X7_takesNumber text texted at_ 0 ((read 1) - 1)).2.1, (f_X7_takesNumber text texted at_ 0 ((read 1) - 1)).2.2.1, (f_X7_takesNumber text texted at_ 0 ((read 1) - 1)).2.2.2) := (if_pos c_13)
    rw [hf] at hret
    dsimp only at hret
    exact hret _ _ _ _ hP hS dX7_takesBeard_17
