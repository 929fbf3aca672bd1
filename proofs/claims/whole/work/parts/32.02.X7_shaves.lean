def v_X7_shaves_28_0 (w : Nat → Int32) (told : Nat → Int32) (r_ : Int32) (barber : Int32) (person : Int32) (strip : Int32) : Nat → Int32 := if (f_X7_tells told person strip (w ((((r_ + 1) + (6 * person)) + strip).toNatClampNeg))) = (-1) then w else (f_X7_knowsPart w r_ barber person strip (f_X7_tells told person strip (w ((((r_ + 1) + (6 * person)) + strip).toNatClampNeg))))
def f_X7_shaves (w : Nat → Int32) (told : Nat → Int32) (r_ : Int32) (barber : Int32) (person : Int32) (strip : Int32) : Int32 × (Nat → Int32) := ((f_X7_tells told person strip (w ((((r_ + 1) + (6 * person)) + strip).toNatClampNeg))), (upd (v_X7_shaves_28_0 w told r_ barber person strip) ((((r_ + 1) + (6 * person)) + strip).toNatClampNeg) 0))
abbrev rm_X7_shaves : Room := { frames := 1, cells := 0, slots := 0, locals := 26 }
set_option maxRecDepth 100000 in
set_option maxHeartbeats 4000000 in
theorem k_X7_shaves (l : Launch) (D : va_G) (cI cZ : ClassId) (u : Nat → Nat) (w : Nat → Int32) (told : Nat → Int32) (read : Nat → Int32) (isK : Nat → Int32) (undoes : Int32) (text : Nat → Int32) (texted : Int32) (seen : Int32) (seS : Nat → Int32) (seB : Nat → Int32) (seP : Nat → Int32) (at_ : Int32) (start : Int32) (clauses : Int32) (number : Int32) (word : Int64) (r_ : Int32) (barber : Int32) (person : Int32) (strip : Int32) (h_r_ : kb r_ 0 256) (h_barber : kb barber 0 4) (h_person : kb person 0 6) (h_strip : kb strip 0 6) : CI l D (kTy cI cZ) kT yX7_shaves (.code yX7_shaves cX7_shaves 6 (some .int) :: wsL_law) rm_X7_shaves [.ref (u 0), .int r_, .int barber, .int person, .int strip] (wM cI cZ u w told read isK undoes text texted seen seS seB seP at_ start clauses number word) (wM cI cZ u ((f_X7_shaves w told r_ barber person strip).2) told read isK undoes text texted seen seS seB seP at_ start clauses number word) ((f_X7_shaves w told r_ barber person strip).1) := by
  refine CI.of (cc := cX7_shaves) (maxL := 6) (ty := .int) (by decide) rfl (Nat.le_of_ble_eq_true rfl) rfl ?_
  intro p e s m args below meth c A Q ls hx hb hml hts0 hown hA hP hK hD hE hl hret
  have hts : ∀ w ∈ wsL_law, w.before args s = true := fun w h => hts0 w (List.mem_cons_of_mem _ h)
  clear hts0
  have hown : s.vm.findClass RX7 = some m.cls := hown
  have hl : lv_has ls 6 [(0, .ref (u 0)), (1, .int r_), (2, .int barber), (3, .int person), (4, .int strip)] := hl
  have hS : va_S A s.heap s.heap [] := va_S.rf
  revert hP hS
  suffices hgo : ∀ (H : Heap) (locs : List Loc), va_P D vwCl (wM cI cZ u w told read isK undoes text texted seen seS seB seP at_ start clauses number word) H → va_S A s.heap H locs → W p l e rm_X7_shaves s m args below meth c H locs 0 0 Q (F0 m 0 ls []) from fun a b => hgo _ _ a b
  intro H locs hP hS
  refine lv_aload_n hx hb dX7_shaves_0 rfl (lv_at hl 0 rfl) ?_
  refine lv_iload_n hx hb dX7_shaves_1 rfl (lv_at hl 3 rfl) ?_
  refine lv_iload hx hb dX7_shaves_2 (lv_at hl 4 rfl) ?_
  refine lv_aload_n hx hb dX7_shaves_4 rfl (lv_at hl 0 rfl) ?_
  refine va_get (D := D) (ci := 7) (v := .ref (u 1)) (C := RX7) (T := TX7) (N := 16) hx hb hts inlX7 hown hK hP 0 rfl rfl 0 (by decide) (kw hts kin_4 22 rfl) (fun _ h9 => h9) rfl dX7_shaves_5 ?_
  refine lv_iload_n hx hb dX7_shaves_8 rfl (lv_at hl 1 rfl) ?_
  refine lv_iconst (v := 1) hx hb dX7_shaves_9 (by decide) ?_
  refine lv_iadd hx hb dX7_shaves_10 ?_
  refine lv_bipush (v := 6) hx hb dX7_shaves_11 (by decide) ?_
  refine lv_iload_n hx hb dX7_shaves_13 rfl (lv_at hl 3 rfl) ?_
  refine lv_imul hx hb dX7_shaves_14 ?_
  refine lv_iadd hx hb dX7_shaves_15 ?_
  refine lv_iload hx hb dX7_shaves_16 (lv_at hl 4 rfl) ?_
  refine lv_iadd hx hb dX7_shaves_18 ?_
  refine va_iald (cA := cI) (n := 1020) (f := w) hx hb hK hP 1 0 rfl rfl ((kb.add (kb.add (kb.add h_r_ (kb.lit 1)) (kb.mul (c := 6) rfl h_person)) h_strip).in (by decide) (by decide)) dX7_shaves_19 ?_
  refine kvi (As := [.int person, .int strip, .int (w ((((r_ + 1) + (6 * person)) + strip).toNatClampNeg))]) (rest := []) (q0 := 0) (ci := 7) ⟨hx, hb, hml, hown, hts⟩ hP hK hD hS hA hE (k_X7_tells l D cI cZ  u w told read isK undoes text texted seen seS seB seP at_ start clauses number word person strip (w ((((r_ + 1) + (6 * person)) + strip).toNatClampNeg)) (h_person.wide (by decide) (by decide))) (kcv hts kM_X7_tells (kin_22 _ (List.mem_of_getElem? (i := 20) rfl)) ⟨rfl, rfl⟩ ⟨Nat.le_of_ble_eq_true rfl, Nat.le_of_ble_eq_true rfl⟩) kBl_T kOk_T (wM cI cZ u w told read isK undoes text texted seen seS seB seP at_ start clauses number word) (cut_m_m cI cZ u w told read isK undoes text texted seen seS seB seP at_ start clauses number word w told read isK undoes text texted seen seS seB seP at_ start clauses number word).1 (cut_m_m cI cZ u w told read isK undoes text texted seen seS seB seP at_ start clauses number word w told read isK undoes text texted seen seS seB seP at_ start clauses number word).2 rfl rfl rfl rfl hl.1 rfl (Nat.le_of_ble_eq_true rfl) dX7_shaves_20 (fun H locs hP hD hS => ?_)
  refine lv_istore (lv' := [(5, .int (f_X7_tells told person strip (w ((((r_ + 1) + (6 * person)) + strip).toNatClampNeg)))), (0, .ref (u 0)), (1, .int r_), (2, .int barber), (3, .int person), (4, .int strip)]) hx hb dX7_shaves_23 hl (by decide) rfl (fun ls hl => ?_)
  refine lv_iload hx hb dX7_shaves_25 (lv_at hl 0 rfl) ?_
  refine lv_iconst (v := (-1)) hx hb dX7_shaves_27 (by decide) ?_
  have J28 : ∀ (H : Heap) (locs : List Loc) (ls : Array Slot), va_P D vwCl (wM cI cZ u (v_X7_shaves_28_0 w told r_ barber person strip) told read isK undoes text texted seen seS seB seP at_ start clauses number word) H → va_D A (wM cI cZ u (v_X7_shaves_28_0 w told r_ barber person strip) told read isK undoes text texted seen seS seB seP at_ start clauses number word) → va_S A s.heap H locs → lv_has ls 6 [(0, .ref (u 0)), (1, .int r_), (2, .int barber), (3, .int person), (4, .int strip), (5, .int (f_X7_tells told person strip (w ((((r_ + 1) + (6 * person)) + strip).toNatClampNeg))))] → W p l e rm_X7_shaves s m args below meth c H locs 0 0 Q (F0 m 42 ls []) := by
    intro H locs ls hP hD hS hl
    refine lv_aload_n hx hb dX7_shaves_42 rfl (lv_at hl 0 rfl) ?_
    refine va_get (D := D) (ci := 7) (v := .ref (u 1)) (C := RX7) (T := TX7) (N := 16) hx hb hts inlX7 hown hK hP 0 rfl rfl 0 (by decide) (kw hts kin_4 22 rfl) (fun _ h9 => h9) rfl dX7_shaves_43 ?_
    refine lv_iload_n hx hb dX7_shaves_46 rfl (lv_at hl 1 rfl) ?_
    refine lv_iconst (v := 1) hx hb dX7_shaves_47 (by decide) ?_
    refine lv_iadd hx hb dX7_shaves_48 ?_
    refine lv_bipush (v := 6) hx hb dX7_shaves_49 (by decide) ?_
    refine lv_iload_n hx hb dX7_shaves_51 rfl (lv_at hl 3 rfl) ?_
    refine lv_imul hx hb dX7_shaves_52 ?_
    refine lv_iadd hx hb dX7_shaves_53 ?_
    refine lv_iload hx hb dX7_shaves_54 (lv_at hl 4 rfl) ?_
    refine lv_iadd hx hb dX7_shaves_56 ?_
    refine lv_iconst (v := 0) hx hb dX7_shaves_57 (by decide) ?_
    refine va_iast (cA := cI) (n := 1020) (f := (v_X7_shaves_28_0 w told r_ barber person strip)) hx hb hK hP hD hS 1 0 rfl rfl ((kb.add (kb.add (kb.add h_r_ (kb.lit 1)) (kb.mul (c := 6) rfl h_person)) h_strip).in (by decide) (by decide)) dX7_shaves_58 (fun H locs hP hD hS => ?_)
    have hP : va_P D vwCl (wM cI cZ u (upd (v_X7_shaves_28_0 w told r_ barber person strip) ((((r_ + 1) + (6 * person)) + strip).toNatClampNeg) 0) told read isK undoes text texted seen seS seB seP at_ start clauses number word) H := hP
    have hD : va_D A (wM cI cZ u (upd (v_X7_shaves_28_0 w told r_ barber person strip) ((((r_ + 1) + (6 * person)) + strip).toNatClampNeg) 0) told read isK undoes text texted seen seS seB seP at_ start clauses number word) := hD
    refine lv_iload hx hb dX7_shaves_59 (lv_at hl 5 rfl) ?_
    have hf : (f_X7_shaves w told r_ barber person strip) = ((f_X7_tells told person strip (w ((((r_ + 1) + (6 * person)) + strip).toNatClampNeg))), (upd (v_X7_shaves_28_0 w told r_ barber person strip) ((((r_ + 1) + (6 * person)) + strip).toNatClampNeg) 0)) := rfl
    rw [hf] at hret
    dsimp only at hret
    exact hret _ _ _ _ hP hS dX7_shaves_61
  refine lv_icmp_eq (tgt := 42) hx hb dX7_shaves_28 (by decide) (fun c_28 => ?_) (fun c_28 => ?_)
  · skip
    rw [show (v_X7_shaves_28_0 w told r_ barber person strip) = w from (if_pos c_28)] at J28
    exact J28 _ _ _ hP hD hS (lv_sub hl [1, 2, 3, 4, 5, 0] rfl)
  · skip
    refine lv_aload_n hx hb dX7_shaves_31 rfl (lv_at hl 1 rfl) ?_
    refine lv_iload_n hx hb dX7_shaves_32 rfl (lv_at hl 2 rfl) ?_
    refine lv_iload_n hx hb dX7_shaves_33 rfl (lv_at hl 3 rfl) ?_
    refine lv_iload_n hx hb dX7_shaves_34 rfl (lv_at hl 4 rfl) ?_
    refine lv_iload hx hb dX7_shaves_35 (lv_at hl 5 rfl) ?_
    refine lv_iload hx hb dX7_shaves_37 (lv_at hl 0 rfl) ?_
    refine kvv (As := [.int r_, .int barber, .int person, .int strip, .int (f_X7_tells told person strip (w ((((r_ + 1) + (6 * person)) + strip).toNatClampNeg)))]) (rest := []) (q0 := 0) (ci := 7) ⟨hx, hb, hml, hown, hts⟩ hP hK hD hS hA hE (k_X7_knowsPart l D cI cZ  u w told read isK undoes text texted seen seS seB seP at_ start clauses number word r_ barber person strip (f_X7_tells told person strip (w ((((r_ + 1) + (6 * person)) + strip).toNatClampNeg))) (h_r_.wide (by decide) (by decide)) (h_barber.wide (by decide) (by decide)) (h_person.wide (by decide) (by decide))) (kcv hts kM_X7_knowsPart (kin_25 _ (List.mem_of_getElem? (i := 3) rfl)) ⟨rfl, rfl⟩ ⟨Nat.le_of_ble_eq_true rfl, Nat.le_of_ble_eq_true rfl⟩) kBl_T kOk_T (wM cI cZ u (f_X7_knowsPart w r_ barber person strip (f_X7_tells told person strip (w ((((r_ + 1) + (6 * person)) + strip).toNatClampNeg)))) told read isK undoes text texted seen seS seB seP at_ start clauses number word) (cut_m_m cI cZ u w told read isK undoes text texted seen seS seB seP at_ start clauses number word (f_X7_knowsPart w r_ barber person strip (f_X7_tells told person strip (w ((((r_ + 1) + (6 * person)) + strip).toNatClampNeg)))) told read isK undoes text texted seen seS seB seP at_ start clauses number word).1 (cut_m_m cI cZ u w told read isK undoes text texted seen seS seB seP at_ start clauses number word (f_X7_knowsPart w r_ barber person strip (f_X7_tells told person strip (w ((((r_ + 1) + (6 * person)) + strip).toNatClampNeg)))) told read isK undoes text texted seen seS seB seP at_ start clauses number word).2 rfl rfl rfl rfl hl.1 rfl (Nat.le_of_ble_eq_true rfl) dX7_shaves_39 (fun H locs hP hD hS => ?_)
    rw [show (v_X7_shaves_28_0 w told r_ barber person strip) = (f_X7_knowsPart w r_ barber person strip (f_X7_tells told person strip (w ((((r_ + 1) + (6 * person)) + strip).toNatClampNeg)))) from (if_neg c_28)] at J28
    exact J28 _ _ _ hP hD hS (lv_sub hl [1, 2, 3, 4, 5, 0] rfl)
