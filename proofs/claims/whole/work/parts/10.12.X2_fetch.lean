def f_X2_fetch (n : Nat) (f : Nat → Int32) (std : Nat → Int32) (place : Int32) : (Nat → Int32) := (f_X0_take 85 n std f (place * 85) 0 85)
abbrev rm_X2_fetch : Room := { frames := 2, cells := 0, slots := 0, locals := 84 }
set_option maxRecDepth 100000 in
theorem cut_shf_rows2_4_5_1_2 (cI : ClassId) (b : Nat) (r : Nat) (a : Nat) (n : Nat) (q : Nat → Nat) (f : Nat → Int32) (std : Nat → Int32) (n_f : Nat → Int32) (n_g : Nat → Int32) : kCut (wShf cI b r a n f ++ wStd cI q std) (wR cI (q 18) (q 19) 85 std ++ wR cI r a n f) (wR cI (q 18) (q 19) 85 n_f ++ wR cI r a n n_g) (wShf cI b r a n n_g ++ wStd cI q n_f) [(b, .inr (2, [.ref r])), ((q 17), .inr (4, [.ref (q 18)]))] [4, 5, 1, 2] [0, 3] [0, 4, 5, 1, 2, 3] [q 18, q 19, r, a] ∧ kNd [4, 5, 1, 2] [0, 3] [0, 4, 5, 1, 2, 3] = true := ⟨⟨rfl, rfl, ⟨rfl, rfl⟩, rfl⟩, by decide +kernel⟩
set_option maxRecDepth 100000 in
set_option maxHeartbeats 4000000 in
theorem k_X2_fetch (l : Launch) (D : va_G) (cI cZ : ClassId) (adK adV : Nat → Nat) (b : Nat) (r : Nat) (a : Nat) (n : Nat) (q : Nat → Nat) (f : Nat → Int32) (std : Nat → Int32) (place : Int32) (hn : n < 2147483648) : CV l D (kTy cI cZ) (kG adK adV) yX2_fetch (.code yX2_fetch cX2_fetch 3 none :: wsL_law) rm_X2_fetch [.ref b, .int place, .ref (q 17)] (wShf cI b r a n f ++ wStd cI q std) (wShf cI b r a n f ++ wStd cI q (f_X2_fetch n f std place)) := by
  refine CV.of (cc := cX2_fetch) (maxL := 3) (by decide) rfl (Nat.le_of_ble_eq_true rfl) ?_
  intro p e s m args below meth c A Q ls hx hb hml hts0 hown hA hP hK hD hE hl hret
  have hts : ∀ w ∈ wsL_law, w.before args s = true := fun w h => hts0 w (List.mem_cons_of_mem _ h)
  clear hts0
  have hown : s.vm.findClass RX2 = some m.cls := hown
  have hl : lv_has ls 3 [(0, .ref b), (1, .int place), (2, .ref (q 17))] := hl
  have hS : va_S A s.heap s.heap [] := va_S.rf
  revert hP hS
  suffices hgo : ∀ (H : Heap) (locs : List Loc), va_P D vwCl (wShf cI b r a n f ++ wStd cI q std) H → va_S A s.heap H locs → W p l e rm_X2_fetch s m args below meth c H locs 0 0 Q (F0 m 0 ls []) from fun a b => hgo _ _ a b
  intro H locs hP hS
  refine lv_aload_n hx hb dX2_fetch_0 rfl (lv_at hl 2 rfl) ?_
  refine va_get (D := D) (ci := 4) (v := .ref (q 18)) (C := RX4) (T := TX4) (N := 1) hx hb hts inlX4 hown hK hP 3 rfl rfl 0 (by decide) (kw hts kin_23 13 rfl) (fun _ h9 => h9) rfl dX2_fetch_1 ?_
  refine lv_aload_n hx hb dX2_fetch_4 rfl (lv_at hl 0 rfl) ?_
  refine va_get (D := D) (ci := 2) (v := .ref r) (C := RX2) (T := TX2) (N := 1) hx hb hts inlX2 hown hK hP 0 rfl rfl 0 (by decide) (kw hts kin_4 16 rfl) (fun _ h9 => h9) rfl dX2_fetch_5 ?_
  refine lv_iload_n hx hb dX2_fetch_8 rfl (lv_at hl 1 rfl) ?_
  refine lv_bipush (v := 85) hx hb dX2_fetch_9 (by decide) ?_
  refine lv_imul hx hb dX2_fetch_11 ?_
  refine lv_iconst (v := 0) hx hb dX2_fetch_12 (by decide) ?_
  refine lv_bipush (v := 85) hx hb dX2_fetch_13 (by decide) ?_
  refine kvv (As := [.ref r, .int (place * 85), .int 0, .int 85]) (rest := []) (q0 := 0) (ci := 0) ⟨hx, hb, hml, hown, hts⟩ hP hK hD hS hA hE (k_X0_take l D cI cZ adK adV (q 18) (q 19) 85 r a n std f (place * 85) 0 85 (by decide) (hn)) (kcv hts kM_X0_take (kin_23 _ (List.mem_of_getElem? (i := 14) rfl)) ⟨rfl, rfl⟩ ⟨Nat.le_of_ble_eq_true rfl, Nat.le_of_ble_eq_true rfl⟩) kBl_G kOk_G (wShf cI b r a n f ++ wStd cI q (f_X0_take 85 n std f (place * 85) 0 85)) (cut_shf_rows2_4_5_1_2 cI b r a n q f std (f_X0_take 85 n std f (place * 85) 0 85) f).1 (cut_shf_rows2_4_5_1_2 cI b r a n q f std (f_X0_take 85 n std f (place * 85) 0 85) f).2 rfl rfl rfl rfl hl.1 rfl (Nat.le_of_ble_eq_true rfl) dX2_fetch_15 (fun H locs hP hD hS => ?_)
  have hf : (f_X2_fetch n f std place) = (f_X0_take 85 n std f (place * 85) 0 85) := rfl
  rw [hf] at hret
  exact hret _ _ _ _ hP hS dX2_fetch_18
