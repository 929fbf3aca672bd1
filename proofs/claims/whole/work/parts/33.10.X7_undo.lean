def f_X7_undo (w : Nat → Int32) (undoes : Int32) : Int32 × (Nat → Int32) × Int32 := if undoes = 0 then ((-4), w, undoes) else ((undoes - 1), (f_X7_copy w (340 + (85 * (undoes - 1))) 0), (undoes - 1))
abbrev rm_X7_undo : Room := { frames := 1, cells := 0, slots := 0, locals := 23 }
set_option maxRecDepth 100000 in
set_option maxHeartbeats 4000000 in
theorem k_X7_undo (l : Launch) (D : va_G) (cI cZ : ClassId) (u : Nat → Nat) (w : Nat → Int32) (told : Nat → Int32) (read : Nat → Int32) (isK : Nat → Int32) (undoes : Int32) (text : Nat → Int32) (texted : Int32) (seen : Int32) (seS : Nat → Int32) (seB : Nat → Int32) (seP : Nat → Int32) (at_ : Int32) (start : Int32) (clauses : Int32) (number : Int32) (word : Int64) (h_undoes : kb undoes 0 9) : CI l D (kTy cI cZ) kT yX7_undo (.code yX7_undo cX7_undo 1 (some .int) :: wsL_law) rm_X7_undo [.ref (u 0)] (wM cI cZ u w told read isK undoes text texted seen seS seB seP at_ start clauses number word) (wM cI cZ u ((f_X7_undo w undoes).2.1) told read isK ((f_X7_undo w undoes).2.2) text texted seen seS seB seP at_ start clauses number word) ((f_X7_undo w undoes).1) := by
  refine CI.of (cc := cX7_undo) (maxL := 1) (ty := .int) (by decide) rfl (Nat.le_of_ble_eq_true rfl) rfl ?_
  intro p e s m args below meth c A Q ls hx hb hml hts0 hown hA hP hK hD hE hl hret
  have hts : ∀ w ∈ wsL_law, w.before args s = true := fun w h => hts0 w (List.mem_cons_of_mem _ h)
  clear hts0
  have hown : s.vm.findClass RX7 = some m.cls := hown
  have hl : lv_has ls 1 [(0, .ref (u 0))] := hl
  have hS : va_S A s.heap s.heap [] := va_S.rf
  revert hP hS
  suffices hgo : ∀ (H : Heap) (locs : List Loc), va_P D vwCl (wM cI cZ u w told read isK undoes text texted seen seS seB seP at_ start clauses number word) H → va_S A s.heap H locs → W p l e rm_X7_undo s m args below meth c H locs 0 0 Q (F0 m 0 ls []) from fun a b => hgo _ _ a b
  intro H locs hP hS
  refine lv_aload_n hx hb dX7_undo_0 rfl (lv_at hl 0 rfl) ?_
  refine va_get (D := D) (ci := 7) (v := .int undoes) (C := RX7) (T := TX7) (N := 16) hx hb hts inlX7 hown hK hP 0 rfl rfl 4 (by decide) (kw hts kin_16 20 rfl) (fun _ h9 => h9) rfl dX7_undo_1 ?_
  refine lv_if_ne (tgt := 10) hx hb dX7_undo_4 (by decide) (fun c_4 => ?_) (fun c_4 => ?_)
  · skip
    refine lv_aload_n hx hb dX7_undo_10 rfl (lv_at hl 0 rfl) ?_
    refine lv_dup hx hb dX7_undo_11 rfl ?_
    refine va_get (D := D) (ci := 7) (v := .int undoes) (C := RX7) (T := TX7) (N := 16) hx hb hts inlX7 hown hK hP 0 rfl rfl 4 (by decide) (kw hts kin_16 20 rfl) (fun _ h9 => h9) rfl dX7_undo_12 ?_
    refine lv_iconst (v := 1) hx hb dX7_undo_15 (by decide) ?_
    refine lv_isub hx hb dX7_undo_16 ?_
    refine va_put (D := D) (ci := 7) (v := .int (undoes - 1)) (ty := .int) (C := RX7) (T := TX7) (N := 16) hx hb hts inlX7 tyX7 tyX7_ok nmX7 hown hK hP hD hS 0 rfl rfl 4 (by decide) (kw hts kin_16 20 rfl) (fun _ h9 => h9) rfl (by decide +kernel) rfl rfl (Nat.le_of_ble_eq_true rfl) dX7_undo_17 (fun H locs hP hD hS => ?_)
    have hP : va_P D vwCl (wM cI cZ u w told read isK (undoes - 1) text texted seen seS seB seP at_ start clauses number word) H := hP
    have hD : va_D A (wM cI cZ u w told read isK (undoes - 1) text texted seen seS seB seP at_ start clauses number word) := hD
    refine lv_aload_n hx hb dX7_undo_20 rfl (lv_at hl 0 rfl) ?_
    refine lv_sipush (v := 340) hx hb dX7_undo_21 (by decide) ?_
    refine lv_bipush (v := 85) hx hb dX7_undo_24 (by decide) ?_
    refine lv_aload_n hx hb dX7_undo_26 rfl (lv_at hl 0 rfl) ?_
    refine va_get (D := D) (ci := 7) (v := .int (undoes - 1)) (C := RX7) (T := TX7) (N := 16) hx hb hts inlX7 hown hK hP 0 rfl rfl 4 (by decide) (kw hts kin_16 20 rfl) (fun _ h9 => h9) rfl dX7_undo_27 ?_
    refine lv_imul hx hb dX7_undo_30 ?_
    refine lv_iadd hx hb dX7_undo_31 ?_
    refine lv_iconst (v := 0) hx hb dX7_undo_32 (by decide) ?_
    refine kvv (As := [.int (340 + (85 * (undoes - 1))), .int 0]) (rest := []) (q0 := 0) (ci := 7) ⟨hx, hb, hml, hown, hts⟩ hP hK hD hS hA hE (k_X7_copy l D cI cZ  u w told read isK (undoes - 1) text texted seen seS seB seP at_ start clauses number word (340 + (85 * (undoes - 1))) 0 ((kb.add (kb.lit 340) (kb.mul (c := 85) rfl (kundo h_undoes c_4))).wide (by decide) (by decide)) ((kb.lit 0).wide (by decide) (by decide))) (kcv hts kM_X7_copy (kin_24 _ (List.mem_of_getElem? (i := 19) rfl)) ⟨rfl, rfl⟩ ⟨Nat.le_of_ble_eq_true rfl, Nat.le_of_ble_eq_true rfl⟩) kBl_T kOk_T (wM cI cZ u (f_X7_copy w (340 + (85 * (undoes - 1))) 0) told read isK (undoes - 1) text texted seen seS seB seP at_ start clauses number word) (cut_m_m cI cZ u w told read isK (undoes - 1) text texted seen seS seB seP at_ start clauses number word (f_X7_copy w (340 + (85 * (undoes - 1))) 0) told read isK (undoes - 1) text texted seen seS seB seP at_ start clauses number word).1 (cut_m_m cI cZ u w told read isK (undoes - 1) text texted seen seS seB seP at_ start clauses number word (f_X7_copy w (340 + (85 * (undoes - 1))) 0) told read isK (undoes - 1) text texted seen seS seB seP at_ start clauses number word).2 rfl rfl rfl rfl hl.1 rfl (Nat.le_of_ble_eq_true rfl) dX7_undo_33 (fun H locs hP hD hS => ?_)
    refine lv_aload_n hx hb dX7_undo_36 rfl (lv_at hl 0 rfl) ?_
    refine va_get (D := D) (ci := 7) (v := .int (undoes - 1)) (C := RX7) (T := TX7) (N := 16) hx hb hts inlX7 hown hK hP 0 rfl rfl 4 (by decide) (kw hts kin_16 20 rfl) (fun _ h9 => h9) rfl dX7_undo_37 ?_
    have hf : (f_X7_undo w undoes) = ((undoes - 1), (f_X7_copy w (340 + (85 * (undoes - 1))) 0), (undoes - 1)) := (if_neg c_4)
    rw [hf] at hret
    dsimp only at hret
    exact hret _ _ _ _ hP hS dX7_undo_40
  · skip
    refine lv_bipush (v := (-4)) hx hb dX7_undo_7 (by decide) ?_
    have hf : (f_X7_undo w undoes) = ((-4), w, undoes) := (if_pos c_4)
    rw [hf] at hret
    dsimp only at hret
    exact hret _ _ _ _ hP hS dX7_undo_9
