def f_X4_learn (std : Nat → Int32) (barber : Int32) (person : Int32) (strips : Int32) (parts_ : Int32) : (Nat → Int32) := (f_X4_setKnown std barber person ((f_X4_stripsKnown std barber person) ||| strips) (f_X6_replaced (f_X4_partsKnown std barber person) strips parts_))
abbrev rm_X4_learn : Room := { frames := 2, cells := 0, slots := 0, locals := 46 }
set_option maxRecDepth 100000 in
set_option maxHeartbeats 4000000 in
theorem k_X4_learn (l : Launch) (D : va_G) (cI cZ : ClassId) (adK adV : Nat → Nat) (q : Nat → Nat) (std : Nat → Int32) (barber : Int32) (person : Int32) (strips : Int32) (parts_ : Int32) : CV l D (kTy cI cZ) (kG adK adV) yX4_learn (.code yX4_learn cX4_learn 5 none :: wsL_law) rm_X4_learn [.ref (q 17), .int barber, .int person, .int strips, .int parts_] (wStd cI q std) (wStd cI q (f_X4_learn std barber person strips parts_)) := by
  refine CV.of (cc := cX4_learn) (maxL := 5) (by decide) rfl (Nat.le_of_ble_eq_true rfl) ?_
  intro p e s m args below meth c A Q ls hx hb hml hts0 hown hA hP hK hD hE hl hret
  have hts : ∀ w ∈ wsL_law, w.before args s = true := fun w h => hts0 w (List.mem_cons_of_mem _ h)
  clear hts0
  have hown : s.vm.findClass RX4 = some m.cls := hown
  have hl : lv_has ls 5 [(0, .ref (q 17)), (1, .int barber), (2, .int person), (3, .int strips), (4, .int parts_)] := hl
  have hS : va_S A s.heap s.heap [] := va_S.rf
  revert hP hS
  suffices hgo : ∀ (H : Heap) (locs : List Loc), va_P D vwCl (wStd cI q std) H → va_S A s.heap H locs → W p l e rm_X4_learn s m args below meth c H locs 0 0 Q (F0 m 0 ls []) from fun a b => hgo _ _ a b
  intro H locs hP hS
  refine lv_aload_n hx hb dX4_learn_0 rfl (lv_at hl 0 rfl) ?_
  refine lv_iload_n hx hb dX4_learn_1 rfl (lv_at hl 1 rfl) ?_
  refine lv_iload_n hx hb dX4_learn_2 rfl (lv_at hl 2 rfl) ?_
  refine lv_aload_n hx hb dX4_learn_3 rfl (lv_at hl 0 rfl) ?_
  refine lv_iload_n hx hb dX4_learn_4 rfl (lv_at hl 1 rfl) ?_
  refine lv_iload_n hx hb dX4_learn_5 rfl (lv_at hl 2 rfl) ?_
  refine kvi (As := [.int barber, .int person]) (rest := [.int person, .int barber, .ref (q 17)]) (q0 := 0) (ci := 4) ⟨hx, hb, hml, hown, hts⟩ hP hK hD hS hA hE (k_X4_stripsKnown l D cI cZ adK adV q std barber person) (kcv hts kM_X4_stripsKnown (kin_24 _ (List.mem_of_getElem? (i := 2) rfl)) ⟨rfl, rfl⟩ ⟨Nat.le_of_ble_eq_true rfl, Nat.le_of_ble_eq_true rfl⟩) kBl_G kOk_G (wStd cI q std) (cut_std_std cI q std std).1 (cut_std_std cI q std std).2 rfl rfl rfl rfl hl.1 rfl (Nat.le_of_ble_eq_true rfl) dX4_learn_6 (fun H locs hP hD hS => ?_)
  refine lv_iload_n hx hb dX4_learn_9 rfl (lv_at hl 3 rfl) ?_
  refine lv_ior hx hb dX4_learn_10 ?_
  refine lv_aload_n hx hb dX4_learn_11 rfl (lv_at hl 0 rfl) ?_
  refine lv_iload_n hx hb dX4_learn_12 rfl (lv_at hl 1 rfl) ?_
  refine lv_iload_n hx hb dX4_learn_13 rfl (lv_at hl 2 rfl) ?_
  refine kvi (As := [.int barber, .int person]) (rest := [.int ((f_X4_stripsKnown std barber person) ||| strips), .int person, .int barber, .ref (q 17)]) (q0 := 0) (ci := 4) ⟨hx, hb, hml, hown, hts⟩ hP hK hD hS hA hE (k_X4_partsKnown l D cI cZ adK adV q std barber person) (kcv hts kM_X4_partsKnown (kin_24 _ (List.mem_of_getElem? (i := 3) rfl)) ⟨rfl, rfl⟩ ⟨Nat.le_of_ble_eq_true rfl, Nat.le_of_ble_eq_true rfl⟩) kBl_G kOk_G (wStd cI q std) (cut_std_std cI q std std).1 (cut_std_std cI q std std).2 rfl rfl rfl rfl hl.1 rfl (Nat.le_of_ble_eq_true rfl) dX4_learn_14 (fun H locs hP hD hS => ?_)
  refine lv_iload_n hx hb dX4_learn_17 rfl (lv_at hl 3 rfl) ?_
  refine lv_iload hx hb dX4_learn_18 (lv_at hl 4 rfl) ?_
  refine kni (As := [.int (f_X4_partsKnown std barber person), .int strips, .int parts_]) (rest := [.int ((f_X4_stripsKnown std barber person) ||| strips), .int person, .int barber, .ref (q 17)]) ⟨hx, hb, hml, hown, hts⟩ hP hK hD hS hA hE (k_X6_replaced l D cI cZ adK adV (f_X4_partsKnown std barber person) strips parts_) (kcn hts kM_X6_replaced hE.1.2.2 ⟨rfl, rfl⟩ ⟨Nat.le_of_ble_eq_true rfl, Nat.le_of_ble_eq_true rfl⟩) kBl_G kOk_G rfl hl.1 rfl (Nat.le_of_ble_eq_true rfl) dX4_learn_20 (fun H locs hP hD hS => ?_)
  refine kvv (As := [.int barber, .int person, .int ((f_X4_stripsKnown std barber person) ||| strips), .int (f_X6_replaced (f_X4_partsKnown std barber person) strips parts_)]) (rest := []) (q0 := 0) (ci := 4) ⟨hx, hb, hml, hown, hts⟩ hP hK hD hS hA hE (k_X4_setKnown l D cI cZ adK adV q std barber person ((f_X4_stripsKnown std barber person) ||| strips) (f_X6_replaced (f_X4_partsKnown std barber person) strips parts_)) (kcv hts kM_X4_setKnown (kin_24 _ (List.mem_of_getElem? (i := 6) rfl)) ⟨rfl, rfl⟩ ⟨Nat.le_of_ble_eq_true rfl, Nat.le_of_ble_eq_true rfl⟩) kBl_G kOk_G (wStd cI q (f_X4_setKnown std barber person ((f_X4_stripsKnown std barber person) ||| strips) (f_X6_replaced (f_X4_partsKnown std barber person) strips parts_))) (cut_std_std cI q std (f_X4_setKnown std barber person ((f_X4_stripsKnown std barber person) ||| strips) (f_X6_replaced (f_X4_partsKnown std barber person) strips parts_))).1 (cut_std_std cI q std (f_X4_setKnown std barber person ((f_X4_stripsKnown std barber person) ||| strips) (f_X6_replaced (f_X4_partsKnown std barber person) strips parts_))).2 rfl rfl rfl rfl hl.1 rfl (Nat.le_of_ble_eq_true rfl) dX4_learn_23 (fun H locs hP hD hS => ?_)
  have hf : (f_X4_learn std barber person strips parts_) = (f_X4_setKnown std barber person ((f_X4_stripsKnown std barber person) ||| strips) (f_X6_replaced (f_X4_partsKnown std barber person) strips parts_)) := rfl
  rw [hf] at hret
  exact hret _ _ _ _ hP hS dX4_learn_26
