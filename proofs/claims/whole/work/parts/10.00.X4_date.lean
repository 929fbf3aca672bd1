def f_X4_date (std : Nat → Int32) : Int32 := (f_X0_at 85 std 0)
abbrev rm_X4_date : Room := { frames := 1, cells := 0, slots := 0, locals := 21 }
set_option maxRecDepth 100000 in
theorem cut_std_row_1_2 (cI : ClassId) (q : Nat → Nat) (std : Nat → Int32) (n_f : Nat → Int32) : kCut (wStd cI q std) (wR cI (q 18) (q 19) 85 std) (wR cI (q 18) (q 19) 85 n_f) (wStd cI q n_f) [((q 17), .inr (4, [.ref (q 18)]))] [1, 2] [0] [0, 1, 2] [q 18, q 19] ∧ kNd [1, 2] [0] [0, 1, 2] = true := ⟨⟨rfl, rfl, ⟨rfl, rfl⟩, rfl⟩, by decide +kernel⟩
set_option maxRecDepth 100000 in
set_option maxHeartbeats 4000000 in
theorem k_X4_date (l : Launch) (D : va_G) (cI cZ : ClassId) (adK adV : Nat → Nat) (q : Nat → Nat) (std : Nat → Int32) : CI l D (kTy cI cZ) (kG adK adV) yX4_date (.code yX4_date cX4_date 1 (some .int) :: wsL_law) rm_X4_date [.ref (q 17)] (wStd cI q std) (wStd cI q std) (f_X4_date std) := by
  refine CI.of (cc := cX4_date) (maxL := 1) (ty := .int) (by decide) rfl (Nat.le_of_ble_eq_true rfl) rfl ?_
  intro p e s m args below meth c A Q ls hx hb hml hts0 hown hA hP hK hD hE hl hret
  have hts : ∀ w ∈ wsL_law, w.before args s = true := fun w h => hts0 w (List.mem_cons_of_mem _ h)
  clear hts0
  have hown : s.vm.findClass RX4 = some m.cls := hown
  have hl : lv_has ls 1 [(0, .ref (q 17))] := hl
  have hS : va_S A s.heap s.heap [] := va_S.rf
  revert hP hS
  suffices hgo : ∀ (H : Heap) (locs : List Loc), va_P D vwCl (wStd cI q std) H → va_S A s.heap H locs → W p l e rm_X4_date s m args below meth c H locs 0 0 Q (F0 m 0 ls []) from fun a b => hgo _ _ a b
  intro H locs hP hS
  refine lv_aload_n hx hb dX4_date_0 rfl (lv_at hl 0 rfl) ?_
  refine va_get (D := D) (ci := 4) (v := .ref (q 18)) (C := RX4) (T := TX4) (N := 1) hx hb hts inlX4 hown hK hP 0 rfl rfl 0 (by decide) (kw hts kin_4 0 rfl) (fun _ h9 => h9) rfl dX4_date_1 ?_
  refine lv_iconst (v := 0) hx hb dX4_date_4 (by decide) ?_
  refine kvi (As := [.int 0]) (rest := []) (q0 := 0) (ci := 0) ⟨hx, hb, hml, hown, hts⟩ hP hK hD hS hA hE (k_X0_at l D cI cZ adK adV (q 18) (q 19) 85 std 0 (by decide)) (kcv hts kM_X0_at (kin_17 _ (List.mem_of_getElem? (i := 21) rfl)) ⟨rfl, rfl⟩ ⟨Nat.le_of_ble_eq_true rfl, Nat.le_of_ble_eq_true rfl⟩) kBl_G kOk_G (wStd cI q std) (cut_std_row_1_2 cI q std std).1 (cut_std_row_1_2 cI q std std).2 rfl rfl rfl rfl hl.1 rfl (Nat.le_of_ble_eq_true rfl) dX4_date_5 (fun H locs hP hD hS => ?_)
  have hf : (f_X4_date std) = (f_X0_at 85 std 0) := rfl
  rw [hf] at hret
  exact hret _ _ _ _ hP hS dX4_date_8
