def f_X7_isDigit (text : Nat → Int32) (texted : Int32) (k : Int32) : Int32 := (f_X7_in ((f_X7_letterAt text texted k).toInt64) 48 57)
abbrev rm_X7_isDigit : Room := { frames := 1, cells := 0, slots := 0, locals := 25 }
theorem b01_X7_isDigit (text : Nat → Int32) (texted : Int32) (k : Int32) : (f_X7_isDigit text texted k) = 0 ∨ (f_X7_isDigit text texted k) = 1 := b01_X7_in _ _ _
set_option maxRecDepth 100000 in
set_option maxHeartbeats 4000000 in
theorem k_X7_isDigit (l : Launch) (D : va_G) (cI cZ : ClassId) (u : Nat → Nat) (w : Nat → Int32) (told : Nat → Int32) (read : Nat → Int32) (isK : Nat → Int32) (undoes : Int32) (text : Nat → Int32) (texted : Int32) (seen : Int32) (seS : Nat → Int32) (seB : Nat → Int32) (seP : Nat → Int32) (at_ : Int32) (start : Int32) (clauses : Int32) (number : Int32) (word : Int64) (k : Int32) (h_k : kb k 0 161) (hX : kb texted 0 161) : CI l D (kTy cI cZ) kT yX7_isDigit (.code yX7_isDigit cX7_isDigit 2 (some .boolean) :: wsL_law) rm_X7_isDigit [.ref (u 0), .int k] (wM cI cZ u w told read isK undoes text texted seen seS seB seP at_ start clauses number word) (wM cI cZ u w told read isK undoes text texted seen seS seB seP at_ start clauses number word) (f_X7_isDigit text texted k) := by
  refine CI.of (cc := cX7_isDigit) (maxL := 2) (ty := .boolean) (by decide) rfl (Nat.le_of_ble_eq_true rfl) (knb (b01_X7_isDigit text texted k)) ?_
  intro p e s m args below meth c A Q ls hx hb hml hts0 hown hA hP hK hD hE hl hret
  have hts : ∀ w ∈ wsL_law, w.before args s = true := fun w h => hts0 w (List.mem_cons_of_mem _ h)
  clear hts0
  have hown : s.vm.findClass RX7 = some m.cls := hown
  have hl : lv_has ls 2 [(0, .ref (u 0)), (1, .int k)] := hl
  have hS : va_S A s.heap s.heap [] := va_S.rf
  revert hP hS
  suffices hgo : ∀ (H : Heap) (locs : List Loc), va_P D vwCl (wM cI cZ u w told read isK undoes text texted seen seS seB seP at_ start clauses number word) H → va_S A s.heap H locs → W p l e rm_X7_isDigit s m args below meth c H locs 0 0 Q (F0 m 0 ls []) from fun a b => hgo _ _ a b
  intro H locs hP hS
  refine lv_aload_n hx hb dX7_isDigit_0 rfl (lv_at hl 0 rfl) ?_
  refine lv_iload_n hx hb dX7_isDigit_1 rfl (lv_at hl 1 rfl) ?_
  refine kvi (As := [.int k]) (rest := []) (q0 := 0) (ci := 7) ⟨hx, hb, hml, hown, hts⟩ hP hK hD hS hA hE (k_X7_letterAt l D cI cZ  u w told read isK undoes text texted seen seS seB seP at_ start clauses number word k (h_k.wide (by decide) (by decide)) (hX.wide (by decide) (by decide))) (kcv hts kM_X7_letterAt (kin_12 _ (List.mem_of_getElem? (i := 15) rfl)) ⟨rfl, rfl⟩ ⟨Nat.le_of_ble_eq_true rfl, Nat.le_of_ble_eq_true rfl⟩) kBl_T kOk_T (wM cI cZ u w told read isK undoes text texted seen seS seB seP at_ start clauses number word) (cut_m_m cI cZ u w told read isK undoes text texted seen seS seB seP at_ start clauses number word w told read isK undoes text texted seen seS seB seP at_ start clauses number word).1 (cut_m_m cI cZ u w told read isK undoes text texted seen seS seB seP at_ start clauses number word w told read isK undoes text texted seen seS seB seP at_ start clauses number word).2 rfl rfl rfl rfl hl.1 rfl (Nat.le_of_ble_eq_true rfl) dX7_isDigit_2 (fun H locs hP hD hS => ?_)
  refine lv_i2l (v := (f_X7_letterAt text texted k).toInt64) hx hb dX7_isDigit_5 rfl ?_
  refine lv_ldc2 (v := 48) hx hb hown (kw hts kin_13 14 rfl) dX7_isDigit_6 ?_
  refine lv_ldc2 (v := 57) hx hb hown (kw hts kin_13 15 rfl) dX7_isDigit_9 ?_
  refine ksi (As := [.long ((f_X7_letterAt text texted k).toInt64), .long 48, .long 57]) (rest := []) ⟨hx, hb, hml, hown, hts⟩ hP hK hD hS hA hE (k_X7_in l D cI cZ  ((f_X7_letterAt text texted k).toInt64) 48 57) (kcs hts kM_X7_in (kin_6 _ (List.mem_of_getElem? (i := 6) rfl)) ⟨rfl, rfl⟩ ⟨Nat.le_of_ble_eq_true rfl, Nat.le_of_ble_eq_true rfl⟩) kBl_T kOk_T rfl hl.1 rfl (Nat.le_of_ble_eq_true rfl) dX7_isDigit_12 (fun H locs hP hD hS => ?_)
  have hf : (f_X7_isDigit text texted k) = (f_X7_in ((f_X7_letterAt text texted k).toInt64) 48 57) := rfl
  rw [hf] at hret
  exact hret _ _ _ _ hP hS dX7_isDigit_15
