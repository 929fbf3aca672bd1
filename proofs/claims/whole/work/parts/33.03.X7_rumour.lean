def v_X7_rumour_5_0 (told : Nat → Int32) (rumour : Int32) : Int32 := if (f_X7_isRumour told rumour) = 0 then (-2) else (told ((51 + rumour).toNatClampNeg))
def f_X7_rumour (told : Nat → Int32) (rumour : Int32) : Int32 := (v_X7_rumour_5_0 told rumour)
abbrev rm_X7_rumour : Room := { frames := 2, cells := 0, slots := 0, locals := 46 }
set_option maxRecDepth 100000 in
set_option maxHeartbeats 4000000 in
theorem k_X7_rumour (l : Launch) (D : va_G) (cI cZ : ClassId) (u : Nat → Nat) (w : Nat → Int32) (told : Nat → Int32) (read : Nat → Int32) (isK : Nat → Int32) (undoes : Int32) (text : Nat → Int32) (texted : Int32) (seen : Int32) (seS : Nat → Int32) (seB : Nat → Int32) (seP : Nat → Int32) (at_ : Int32) (start : Int32) (clauses : Int32) (number : Int32) (word : Int64) (rumour : Int32) (hT2 : kb (told 2) 0 9) : CI l D (kTy cI cZ) kT yX7_rumour (.code yX7_rumour cX7_rumour 2 (some .int) :: wsL_law) rm_X7_rumour [.ref (u 0), .int rumour] (wM cI cZ u w told read isK undoes text texted seen seS seB seP at_ start clauses number word) (wM cI cZ u w told read isK undoes text texted seen seS seB seP at_ start clauses number word) (f_X7_rumour told rumour) := by
  refine CI.of (cc := cX7_rumour) (maxL := 2) (ty := .int) (by decide) rfl (Nat.le_of_ble_eq_true rfl) rfl ?_
  intro p e s m args below meth c A Q ls hx hb hml hts0 hown hA hP hK hD hE hl hret
  have hts : ∀ w ∈ wsL_law, w.before args s = true := fun w h => hts0 w (List.mem_cons_of_mem _ h)
  clear hts0
  have hown : s.vm.findClass RX7 = some m.cls := hown
  have hl : lv_has ls 2 [(0, .ref (u 0)), (1, .int rumour)] := hl
  have hS : va_S A s.heap s.heap [] := va_S.rf
  revert hP hS
  suffices hgo : ∀ (H : Heap) (locs : List Loc), va_P D vwCl (wM cI cZ u w told read isK undoes text texted seen seS seB seP at_ start clauses number word) H → va_S A s.heap H locs → W p l e rm_X7_rumour s m args below meth c H locs 0 0 Q (F0 m 0 ls []) from fun a b => hgo _ _ a b
  intro H locs hP hS
  refine lv_aload_n hx hb dX7_rumour_0 rfl (lv_at hl 0 rfl) ?_
  refine lv_iload_n hx hb dX7_rumour_1 rfl (lv_at hl 1 rfl) ?_
  refine kvi (As := [.int rumour]) (rest := []) (q0 := 0) (ci := 7) ⟨hx, hb, hml, hown, hts⟩ hP hK hD hS hA hE (k_X7_isRumour l D cI cZ  u w told read isK undoes text texted seen seS seB seP at_ start clauses number word rumour) (kcv hts kM_X7_isRumour (kin_20 _ (List.mem_of_getElem? (i := 2) rfl)) ⟨rfl, rfl⟩ ⟨Nat.le_of_ble_eq_true rfl, Nat.le_of_ble_eq_true rfl⟩) kBl_T kOk_T (wM cI cZ u w told read isK undoes text texted seen seS seB seP at_ start clauses number word) (cut_m_m cI cZ u w told read isK undoes text texted seen seS seB seP at_ start clauses number word w told read isK undoes text texted seen seS seB seP at_ start clauses number word).1 (cut_m_m cI cZ u w told read isK undoes text texted seen seS seB seP at_ start clauses number word w told read isK undoes text texted seen seS seB seP at_ start clauses number word).2 rfl rfl rfl rfl hl.1 rfl (Nat.le_of_ble_eq_true rfl) dX7_rumour_2 (fun H locs hP hD hS => ?_)
  have J5 : ∀ (H : Heap) (locs : List Loc) (ls : Array Slot), va_P D vwCl (wM cI cZ u w told read isK undoes text texted seen seS seB seP at_ start clauses number word) H → va_D A (wM cI cZ u w told read isK undoes text texted seen seS seB seP at_ start clauses number word) → va_S A s.heap H locs → lv_has ls 2 [(0, .ref (u 0)), (1, .int rumour)] → W p l e rm_X7_rumour s m args below meth c H locs 0 0 Q (F0 m 22 ls [.int (v_X7_rumour_5_0 told rumour)]) := by
    intro H locs ls hP hD hS hl
    have hf : (f_X7_rumour told rumour) = (v_X7_rumour_5_0 told rumour) := rfl
    rw [hf] at hret
    exact hret _ _ _ _ hP hS dX7_rumour_22
  refine lv_if_eq (tgt := 20) hx hb dX7_rumour_5 (by decide) (fun c_5 => ?_) (fun c_5 => ?_)
  · skip
    refine lv_bipush (v := (-2)) hx hb dX7_rumour_20 (by decide) ?_
    rw [show (v_X7_rumour_5_0 told rumour) = (-2) from (if_pos c_5)] at J5
    exact J5 _ _ _ hP hD hS (lv_sub hl [0, 1] rfl)
  · skip
    refine lv_aload_n hx hb dX7_rumour_8 rfl (lv_at hl 0 rfl) ?_
    refine va_get (D := D) (ci := 7) (v := .ref (u 2)) (C := RX7) (T := TX7) (N := 16) hx hb hts inlX7 hown hK hP 0 rfl rfl 1 (by decide) (kw hts kin_4 23 rfl) (fun _ h9 => h9) rfl dX7_rumour_9 ?_
    refine lv_bipush (v := 51) hx hb dX7_rumour_12 (by decide) ?_
    refine lv_iload_n hx hb dX7_rumour_14 rfl (lv_at hl 1 rfl) ?_
    refine lv_iadd hx hb dX7_rumour_15 ?_
    refine va_iald (cA := cI) (n := 59) (f := told) hx hb hK hP 2 0 rfl rfl ((kb.add (kb.lit 51) (kperson hT2 (by decide) c_5)).in (by decide) (by decide)) dX7_rumour_16 ?_
    refine lv_goto (tgt := 22) hx hb dX7_rumour_17 (by decide) ?_
    rw [show (v_X7_rumour_5_0 told rumour) = (told ((51 + rumour).toNatClampNeg)) from (if_neg c_5)] at J5
    exact J5 _ _ _ hP hD hS (lv_sub hl [0, 1] rfl)
