def f_X7_fitsOf (w : Nat → Int32) (told : Nat → Int32) (r_ : Int32) (barber : Int32) (person : Int32) : Int32 := (f_X7_fitsBy told (w (((r_ + 37) + ((6 * barber) + person)).toNatClampNeg)) (w (((r_ + 61) + ((6 * barber) + person)).toNatClampNeg)))
abbrev rm_X7_fitsOf : Room := { frames := 1, cells := 0, slots := 0, locals := 24 }
set_option maxRecDepth 100000 in
set_option maxHeartbeats 4000000 in
theorem k_X7_fitsOf (l : Launch) (D : va_G) (cI cZ : ClassId) (u : Nat → Nat) (w : Nat → Int32) (told : Nat → Int32) (read : Nat → Int32) (isK : Nat → Int32) (undoes : Int32) (text : Nat → Int32) (texted : Int32) (seen : Int32) (seS : Nat → Int32) (seB : Nat → Int32) (seP : Nat → Int32) (at_ : Int32) (start : Int32) (clauses : Int32) (number : Int32) (word : Int64) (r_ : Int32) (barber : Int32) (person : Int32) (h_r_ : kb r_ 0 256) (h_barber : kb barber 0 4) (h_person : kb person 0 6) (hT2 : kb (told 2) 0 9) : CI l D (kTy cI cZ) kT yX7_fitsOf (.code yX7_fitsOf cX7_fitsOf 5 (some .int) :: wsL_law) rm_X7_fitsOf [.ref (u 0), .int r_, .int barber, .int person] (wM cI cZ u w told read isK undoes text texted seen seS seB seP at_ start clauses number word) (wM cI cZ u w told read isK undoes text texted seen seS seB seP at_ start clauses number word) (f_X7_fitsOf w told r_ barber person) := by
  refine CI.of (cc := cX7_fitsOf) (maxL := 5) (ty := .int) (by decide) rfl (Nat.le_of_ble_eq_true rfl) rfl ?_
  intro p e s m args below meth c A Q ls hx hb hml hts0 hown hA hP hK hD hE hl hret
  have hts : ∀ w ∈ wsL_law, w.before args s = true := fun w h => hts0 w (List.mem_cons_of_mem _ h)
  clear hts0
  have hown : s.vm.findClass RX7 = some m.cls := hown
  have hl : lv_has ls 5 [(0, .ref (u 0)), (1, .int r_), (2, .int barber), (3, .int person)] := hl
  have hS : va_S A s.heap s.heap [] := va_S.rf
  revert hP hS
  suffices hgo : ∀ (H : Heap) (locs : List Loc), va_P D vwCl (wM cI cZ u w told read isK undoes text texted seen seS seB seP at_ start clauses number word) H → va_S A s.heap H locs → W p l e rm_X7_fitsOf s m args below meth c H locs 0 0 Q (F0 m 0 ls []) from fun a b => hgo _ _ a b
  intro H locs hP hS
  refine lv_bipush (v := 6) hx hb dX7_fitsOf_0 (by decide) ?_
  refine lv_iload_n hx hb dX7_fitsOf_2 rfl (lv_at hl 2 rfl) ?_
  refine lv_imul hx hb dX7_fitsOf_3 ?_
  refine lv_iload_n hx hb dX7_fitsOf_4 rfl (lv_at hl 3 rfl) ?_
  refine lv_iadd hx hb dX7_fitsOf_5 ?_
  refine lv_istore (lv' := [(4, .int ((6 * barber) + person)), (0, .ref (u 0)), (1, .int r_), (2, .int barber), (3, .int person)]) hx hb dX7_fitsOf_6 hl (by decide) rfl (fun ls hl => ?_)
  refine lv_aload_n hx hb dX7_fitsOf_8 rfl (lv_at hl 1 rfl) ?_
  refine lv_aload_n hx hb dX7_fitsOf_9 rfl (lv_at hl 1 rfl) ?_
  refine va_get (D := D) (ci := 7) (v := .ref (u 1)) (C := RX7) (T := TX7) (N := 16) hx hb hts inlX7 hown hK hP 0 rfl rfl 0 (by decide) (kw hts kin_4 22 rfl) (fun _ h9 => h9) rfl dX7_fitsOf_10 ?_
  refine lv_iload_n hx hb dX7_fitsOf_13 rfl (lv_at hl 2 rfl) ?_
  refine lv_bipush (v := 37) hx hb dX7_fitsOf_14 (by decide) ?_
  refine lv_iadd hx hb dX7_fitsOf_16 ?_
  refine lv_iload hx hb dX7_fitsOf_17 (lv_at hl 0 rfl) ?_
  refine lv_iadd hx hb dX7_fitsOf_19 ?_
  refine va_iald (cA := cI) (n := 1020) (f := w) hx hb hK hP 1 0 rfl rfl ((kb.add (kb.add h_r_ (kb.lit 37)) (kb.add (kb.mul (c := 6) rfl h_barber) h_person)).in (by decide) (by decide)) dX7_fitsOf_20 ?_
  refine lv_aload_n hx hb dX7_fitsOf_21 rfl (lv_at hl 1 rfl) ?_
  refine va_get (D := D) (ci := 7) (v := .ref (u 1)) (C := RX7) (T := TX7) (N := 16) hx hb hts inlX7 hown hK hP 0 rfl rfl 0 (by decide) (kw hts kin_4 22 rfl) (fun _ h9 => h9) rfl dX7_fitsOf_22 ?_
  refine lv_iload_n hx hb dX7_fitsOf_25 rfl (lv_at hl 2 rfl) ?_
  refine lv_bipush (v := 61) hx hb dX7_fitsOf_26 (by decide) ?_
  refine lv_iadd hx hb dX7_fitsOf_28 ?_
  refine lv_iload hx hb dX7_fitsOf_29 (lv_at hl 0 rfl) ?_
  refine lv_iadd hx hb dX7_fitsOf_31 ?_
  refine va_iald (cA := cI) (n := 1020) (f := w) hx hb hK hP 1 0 rfl rfl ((kb.add (kb.add h_r_ (kb.lit 61)) (kb.add (kb.mul (c := 6) rfl h_barber) h_person)).in (by decide) (by decide)) dX7_fitsOf_32 ?_
  refine kvi (As := [.int (w (((r_ + 37) + ((6 * barber) + person)).toNatClampNeg)), .int (w (((r_ + 61) + ((6 * barber) + person)).toNatClampNeg))]) (rest := []) (q0 := 0) (ci := 7) ⟨hx, hb, hml, hown, hts⟩ hP hK hD hS hA hE (k_X7_fitsBy l D cI cZ  u w told read isK undoes text texted seen seS seB seP at_ start clauses number word (w (((r_ + 37) + ((6 * barber) + person)).toNatClampNeg)) (w (((r_ + 61) + ((6 * barber) + person)).toNatClampNeg)) (hT2.wide (by decide) (by decide))) (kcv hts kM_X7_fitsBy (kin_21 _ (List.mem_of_getElem? (i := 16) rfl)) ⟨rfl, rfl⟩ ⟨Nat.le_of_ble_eq_true rfl, Nat.le_of_ble_eq_true rfl⟩) kBl_T kOk_T (wM cI cZ u w told read isK undoes text texted seen seS seB seP at_ start clauses number word) (cut_m_m cI cZ u w told read isK undoes text texted seen seS seB seP at_ start clauses number word w told read isK undoes text texted seen seS seB seP at_ start clauses number word).1 (cut_m_m cI cZ u w told read isK undoes text texted seen seS seB seP at_ start clauses number word w told read isK undoes text texted seen seS seB seP at_ start clauses number word).2 rfl rfl rfl rfl hl.1 rfl (Nat.le_of_ble_eq_true rfl) dX7_fitsOf_33 (fun H locs hP hD hS => ?_)
  have hf : (f_X7_fitsOf w told r_ barber person) = (f_X7_fitsBy told (w (((r_ + 37) + ((6 * barber) + person)).toNatClampNeg)) (w (((r_ + 61) + ((6 * barber) + person)).toNatClampNeg))) := rfl
  rw [hf] at hret
  exact hret _ _ _ _ hP hS dX7_fitsOf_36
