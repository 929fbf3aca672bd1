def v_X7_beard_5_0 (w : Nat → Int32) (told : Nat → Int32) (person : Int32) (strip : Int32) : Int32 := if (f_X7_isPerson told person) = 0 then (-2) else (if (f_X7_isStrip strip) = 0 then (-2) else (w (((1 + (6 * person)) + strip).toNatClampNeg)))
def f_X7_beard (w : Nat → Int32) (told : Nat → Int32) (person : Int32) (strip : Int32) : Int32 := (v_X7_beard_5_0 w told person strip)
abbrev rm_X7_beard : Room := { frames := 2, cells := 0, slots := 0, locals := 46 }
set_option maxRecDepth 100000 in
set_option maxHeartbeats 4000000 in
theorem k_X7_beard (l : Launch) (D : va_G) (cI cZ : ClassId) (u : Nat → Nat) (w : Nat → Int32) (told : Nat → Int32) (read : Nat → Int32) (isK : Nat → Int32) (undoes : Int32) (text : Nat → Int32) (texted : Int32) (seen : Int32) (seS : Nat → Int32) (seB : Nat → Int32) (seP : Nat → Int32) (at_ : Int32) (start : Int32) (clauses : Int32) (number : Int32) (word : Int64) (person : Int32) (strip : Int32) (hT1 : kb (told 1) 0 7) : CI l D (kTy cI cZ) kT yX7_beard (.code yX7_beard cX7_beard 3 (some .int) :: wsL_law) rm_X7_beard [.ref (u 0), .int person, .int strip] (wM cI cZ u w told read isK undoes text texted seen seS seB seP at_ start clauses number word) (wM cI cZ u w told read isK undoes text texted seen seS seB seP at_ start clauses number word) (f_X7_beard w told person strip) := by
  refine CI.of (cc := cX7_beard) (maxL := 3) (ty := .int) (by decide) rfl (Nat.le_of_ble_eq_true rfl) rfl ?_
  intro p e s m args below meth c A Q ls hx hb hml hts0 hown hA hP hK hD hE hl hret
  have hts : ∀ w ∈ wsL_law, w.before args s = true := fun w h => hts0 w (List.mem_cons_of_mem _ h)
  clear hts0
  have hown : s.vm.findClass RX7 = some m.cls := hown
  have hl : lv_has ls 3 [(0, .ref (u 0)), (1, .int person), (2, .int strip)] := hl
  have hS : va_S A s.heap s.heap [] := va_S.rf
  revert hP hS
  suffices hgo : ∀ (H : Heap) (locs : List Loc), va_P D vwCl (wM cI cZ u w told read isK undoes text texted seen seS seB seP at_ start clauses number word) H → va_S A s.heap H locs → W p l e rm_X7_beard s m args below meth c H locs 0 0 Q (F0 m 0 ls []) from fun a b => hgo _ _ a b
  intro H locs hP hS
  refine lv_aload_n hx hb dX7_beard_0 rfl (lv_at hl 0 rfl) ?_
  refine lv_iload_n hx hb dX7_beard_1 rfl (lv_at hl 1 rfl) ?_
  refine kvi (As := [.int person]) (rest := []) (q0 := 0) (ci := 7) ⟨hx, hb, hml, hown, hts⟩ hP hK hD hS hA hE (k_X7_isPerson l D cI cZ  u w told read isK undoes text texted seen seS seB seP at_ start clauses number word person) (kcv hts kM_X7_isPerson (kin_18 _ (List.mem_of_getElem? (i := 6) rfl)) ⟨rfl, rfl⟩ ⟨Nat.le_of_ble_eq_true rfl, Nat.le_of_ble_eq_true rfl⟩) kBl_T kOk_T (wM cI cZ u w told read isK undoes text texted seen seS seB seP at_ start clauses number word) (cut_m_m cI cZ u w told read isK undoes text texted seen seS seB seP at_ start clauses number word w told read isK undoes text texted seen seS seB seP at_ start clauses number word).1 (cut_m_m cI cZ u w told read isK undoes text texted seen seS seB seP at_ start clauses number word w told read isK undoes text texted seen seS seB seP at_ start clauses number word).2 rfl rfl rfl rfl hl.1 rfl (Nat.le_of_ble_eq_true rfl) dX7_beard_2 (fun H locs hP hD hS => ?_)
  have J5 : ∀ (H : Heap) (locs : List Loc) (ls : Array Slot), va_P D vwCl (wM cI cZ u w told read isK undoes text texted seen seS seB seP at_ start clauses number word) H → va_D A (wM cI cZ u w told read isK undoes text texted seen seS seB seP at_ start clauses number word) → va_S A s.heap H locs → lv_has ls 3 [(0, .ref (u 0)), (1, .int person), (2, .int strip)] → W p l e rm_X7_beard s m args below meth c H locs 0 0 Q (F0 m 33 ls [.int (v_X7_beard_5_0 w told person strip)]) := by
    intro H locs ls hP hD hS hl
    have hf : (f_X7_beard w told person strip) = (v_X7_beard_5_0 w told person strip) := rfl
    rw [hf] at hret
    exact hret _ _ _ _ hP hS dX7_beard_33
  refine lv_if_eq (tgt := 31) hx hb dX7_beard_5 (by decide) (fun c_5 => ?_) (fun c_5 => ?_)
  · skip
    refine lv_bipush (v := (-2)) hx hb dX7_beard_31 (by decide) ?_
    rw [show (v_X7_beard_5_0 w told person strip) = (-2) from (if_pos c_5)] at J5
    exact J5 _ _ _ hP hD hS (lv_sub hl [0, 1, 2] rfl)
  · skip
    refine lv_iload_n hx hb dX7_beard_8 rfl (lv_at hl 2 rfl) ?_
    refine ksi (As := [.int strip]) (rest := []) ⟨hx, hb, hml, hown, hts⟩ hP hK hD hS hA hE (k_X7_isStrip l D cI cZ  strip) (kcs hts kM_X7_isStrip (kin_19 _ (List.mem_of_getElem? (i := 6) rfl)) ⟨rfl, rfl⟩ ⟨Nat.le_of_ble_eq_true rfl, Nat.le_of_ble_eq_true rfl⟩) kBl_T kOk_T rfl hl.1 rfl (Nat.le_of_ble_eq_true rfl) dX7_beard_9 (fun H locs hP hD hS => ?_)
    refine lv_if_eq (tgt := 31) hx hb dX7_beard_12 (by decide) (fun c_12 => ?_) (fun c_12 => ?_)
    · skip
      refine lv_bipush (v := (-2)) hx hb dX7_beard_31 (by decide) ?_
      rw [show (v_X7_beard_5_0 w told person strip) = (-2) from ((if_neg c_5).trans (if_pos c_12))] at J5
      exact J5 _ _ _ hP hD hS (lv_sub hl [0, 1, 2] rfl)
    · skip
      refine lv_aload_n hx hb dX7_beard_15 rfl (lv_at hl 0 rfl) ?_
      refine va_get (D := D) (ci := 7) (v := .ref (u 1)) (C := RX7) (T := TX7) (N := 16) hx hb hts inlX7 hown hK hP 0 rfl rfl 0 (by decide) (kw hts kin_4 22 rfl) (fun _ h9 => h9) rfl dX7_beard_16 ?_
      refine lv_iconst (v := 1) hx hb dX7_beard_19 (by decide) ?_
      refine lv_bipush (v := 6) hx hb dX7_beard_20 (by decide) ?_
      refine lv_iload_n hx hb dX7_beard_22 rfl (lv_at hl 1 rfl) ?_
      refine lv_imul hx hb dX7_beard_23 ?_
      refine lv_iadd hx hb dX7_beard_24 ?_
      refine lv_iload_n hx hb dX7_beard_25 rfl (lv_at hl 2 rfl) ?_
      refine lv_iadd hx hb dX7_beard_26 ?_
      refine va_iald (cA := cI) (n := 1020) (f := w) hx hb hK hP 1 0 rfl rfl ((kb.add (kb.add (kb.lit 1) (kb.mul (c := 6) rfl (kperson hT1 (by decide) c_5))) (kinlit (h := 5) (n := 5) rfl (by decide) c_12)).in (by decide) (by decide)) dX7_beard_27 ?_
      refine lv_goto (tgt := 33) hx hb dX7_beard_28 (by decide) ?_
      rw [show (v_X7_beard_5_0 w told person strip) = (w (((1 + (6 * person)) + strip).toNatClampNeg)) from ((if_neg c_5).trans (if_neg c_12))] at J5
      exact J5 _ _ _ hP hD hS (lv_sub hl [0, 1, 2] rfl)
