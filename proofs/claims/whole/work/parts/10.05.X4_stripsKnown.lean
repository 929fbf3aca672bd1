def f_X4_stripsKnown (std : Nat → Int32) (barber : Int32) (person : Int32) : Int32 := (f_X0_at 85 std ((37 + (barber * 6)) + person))
abbrev rm_X4_stripsKnown : Room := { frames := 1, cells := 0, slots := 0, locals := 21 }
set_option maxRecDepth 100000 in
set_option maxHeartbeats 4000000 in
theorem k_X4_stripsKnown (l : Launch) (D : va_G) (cI cZ : ClassId) (adK adV : Nat → Nat) (q : Nat → Nat) (std : Nat → Int32) (barber : Int32) (person : Int32) : CI l D (kTy cI cZ) (kG adK adV) yX4_stripsKnown (.code yX4_stripsKnown cX4_stripsKnown 3 (some .int) :: wsL_law) rm_X4_stripsKnown [.ref (q 17), .int barber, .int person] (wStd cI q std) (wStd cI q std) (f_X4_stripsKnown std barber person) := by
  refine CI.of (cc := cX4_stripsKnown) (maxL := 3) (ty := .int) (by decide) rfl (Nat.le_of_ble_eq_true rfl) rfl ?_
  intro p e s m args below meth c A Q ls hx hb hml hts0 hown hA hP hK hD hE hl hret
  have hts : ∀ w ∈ wsL_law, w.before args s = true := fun w h => hts0 w (List.mem_cons_of_mem _ h)
  clear hts0
  have hown : s.vm.findClass RX4 = some m.cls := hown
  have hl : lv_has ls 3 [(0, .ref (q 17)), (1, .int barber), (2, .int person)] := hl
  have hS : va_S A s.heap s.heap [] := va_S.rf
  revert hP hS
  suffices hgo : ∀ (H : Heap) (locs : List Loc), va_P D vwCl (wStd cI q std) H → va_S A s.heap H locs → W p l e rm_X4_stripsKnown s m args below meth c H locs 0 0 Q (F0 m 0 ls []) from fun a b => hgo _ _ a b
  intro H locs hP hS
  refine lv_aload_n hx hb dX4_stripsKnown_0 rfl (lv_at hl 0 rfl) ?_
  refine va_get (D := D) (ci := 4) (v := .ref (q 18)) (C := RX4) (T := TX4) (N := 1) hx hb hts inlX4 hown hK hP 0 rfl rfl 0 (by decide) (kw hts kin_4 0 rfl) (fun _ h9 => h9) rfl dX4_stripsKnown_1 ?_
  refine lv_bipush (v := 37) hx hb dX4_stripsKnown_4 (by decide) ?_
  refine lv_iload_n hx hb dX4_stripsKnown_6 rfl (lv_at hl 1 rfl) ?_
  refine lv_bipush (v := 6) hx hb dX4_stripsKnown_7 (by decide) ?_
  refine lv_imul hx hb dX4_stripsKnown_9 ?_
  refine lv_iadd hx hb dX4_stripsKnown_10 ?_
  refine lv_iload_n hx hb dX4_stripsKnown_11 rfl (lv_at hl 2 rfl) ?_
  refine lv_iadd hx hb dX4_stripsKnown_12 ?_
  refine kvi (As := [.int ((37 + (barber * 6)) + person)]) (rest := []) (q0 := 0) (ci := 0) ⟨hx, hb, hml, hown, hts⟩ hP hK hD hS hA hE (k_X0_at l D cI cZ adK adV (q 18) (q 19) 85 std ((37 + (barber * 6)) + person) (by decide)) (kcv hts kM_X0_at (kin_17 _ (List.mem_of_getElem? (i := 21) rfl)) ⟨rfl, rfl⟩ ⟨Nat.le_of_ble_eq_true rfl, Nat.le_of_ble_eq_true rfl⟩) kBl_G kOk_G (wStd cI q std) (cut_std_row_1_2 cI q std std).1 (cut_std_row_1_2 cI q std std).2 rfl rfl rfl rfl hl.1 rfl (Nat.le_of_ble_eq_true rfl) dX4_stripsKnown_13 (fun H locs hP hD hS => ?_)
  have hf : (f_X4_stripsKnown std barber person) = (f_X0_at 85 std ((37 + (barber * 6)) + person)) := rfl
  rw [hf] at hret
  exact hret _ _ _ _ hP hS dX4_stripsKnown_16
