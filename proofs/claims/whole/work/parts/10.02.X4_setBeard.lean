def f_X4_setBeard (std : Nat → Int32) (person : Int32) (strip : Int32) (beard : Int32) : (Nat → Int32) := (f_X0_put 85 std ((1 + (person * 6)) + strip) beard)
abbrev rm_X4_setBeard : Room := { frames := 1, cells := 0, slots := 0, locals := 22 }
set_option maxRecDepth 100000 in
set_option maxHeartbeats 4000000 in
theorem k_X4_setBeard (l : Launch) (D : va_G) (cI cZ : ClassId) (adK adV : Nat → Nat) (q : Nat → Nat) (std : Nat → Int32) (person : Int32) (strip : Int32) (beard : Int32) : CV l D (kTy cI cZ) (kG adK adV) yX4_setBeard (.code yX4_setBeard cX4_setBeard 4 none :: wsL_law) rm_X4_setBeard [.ref (q 17), .int person, .int strip, .int beard] (wStd cI q std) (wStd cI q (f_X4_setBeard std person strip beard)) := by
  refine CV.of (cc := cX4_setBeard) (maxL := 4) (by decide) rfl (Nat.le_of_ble_eq_true rfl) ?_
  intro p e s m args below meth c A Q ls hx hb hml hts0 hown hA hP hK hD hE hl hret
  have hts : ∀ w ∈ wsL_law, w.before args s = true := fun w h => hts0 w (List.mem_cons_of_mem _ h)
  clear hts0
  have hown : s.vm.findClass RX4 = some m.cls := hown
  have hl : lv_has ls 4 [(0, .ref (q 17)), (1, .int person), (2, .int strip), (3, .int beard)] := hl
  have hS : va_S A s.heap s.heap [] := va_S.rf
  revert hP hS
  suffices hgo : ∀ (H : Heap) (locs : List Loc), va_P D vwCl (wStd cI q std) H → va_S A s.heap H locs → W p l e rm_X4_setBeard s m args below meth c H locs 0 0 Q (F0 m 0 ls []) from fun a b => hgo _ _ a b
  intro H locs hP hS
  refine lv_aload_n hx hb dX4_setBeard_0 rfl (lv_at hl 0 rfl) ?_
  refine va_get (D := D) (ci := 4) (v := .ref (q 18)) (C := RX4) (T := TX4) (N := 1) hx hb hts inlX4 hown hK hP 0 rfl rfl 0 (by decide) (kw hts kin_4 0 rfl) (fun _ h9 => h9) rfl dX4_setBeard_1 ?_
  refine lv_iconst (v := 1) hx hb dX4_setBeard_4 (by decide) ?_
  refine lv_iload_n hx hb dX4_setBeard_5 rfl (lv_at hl 1 rfl) ?_
  refine lv_bipush (v := 6) hx hb dX4_setBeard_6 (by decide) ?_
  refine lv_imul hx hb dX4_setBeard_8 ?_
  refine lv_iadd hx hb dX4_setBeard_9 ?_
  refine lv_iload_n hx hb dX4_setBeard_10 rfl (lv_at hl 2 rfl) ?_
  refine lv_iadd hx hb dX4_setBeard_11 ?_
  refine lv_iload_n hx hb dX4_setBeard_12 rfl (lv_at hl 3 rfl) ?_
  refine kvv (As := [.int ((1 + (person * 6)) + strip), .int beard]) (rest := []) (q0 := 0) (ci := 0) ⟨hx, hb, hml, hown, hts⟩ hP hK hD hS hA hE (k_X0_put l D cI cZ adK adV (q 18) (q 19) 85 std ((1 + (person * 6)) + strip) beard (by decide)) (kcv hts kM_X0_put (kin_16 _ (List.mem_of_getElem? (i := 9) rfl)) ⟨rfl, rfl⟩ ⟨Nat.le_of_ble_eq_true rfl, Nat.le_of_ble_eq_true rfl⟩) kBl_G kOk_G (wStd cI q (f_X0_put 85 std ((1 + (person * 6)) + strip) beard)) (cut_std_row_1_2 cI q std (f_X0_put 85 std ((1 + (person * 6)) + strip) beard)).1 (cut_std_row_1_2 cI q std (f_X0_put 85 std ((1 + (person * 6)) + strip) beard)).2 rfl rfl rfl rfl hl.1 rfl (Nat.le_of_ble_eq_true rfl) dX4_setBeard_13 (fun H locs hP hD hS => ?_)
  have hf : (f_X4_setBeard std person strip beard) = (f_X0_put 85 std ((1 + (person * 6)) + strip) beard) := rfl
  rw [hf] at hret
  exact hret _ _ _ _ hP hS dX4_setBeard_16
