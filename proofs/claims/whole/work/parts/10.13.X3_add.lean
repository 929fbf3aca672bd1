def f_X3_add (sn : Int32) (ss : Nat → Int32) (sb : Nat → Int32) (sp : Nat → Int32) (strip : Int32) (beard : Int32) (part : Int32) : Int32 × (Nat → Int32) × (Nat → Int32) × (Nat → Int32) := ((if (sn + 1) < 6 then (sn + 1) else 6), (f_X0_put 6 ss sn strip), (f_X0_put 6 sb sn beard), (f_X0_put 6 sp sn part))
abbrev rm_X3_add : Room := { frames := 1, cells := 0, slots := 0, locals := 22 }
set_option maxRecDepth 100000 in
theorem cut_see_row_1_2 (cI : ClassId) (q : Nat → Nat) (sn : Int32) (ss : Nat → Int32) (sb : Nat → Int32) (sp : Nat → Int32) (n_f : Nat → Int32) : kCut (wSee cI q sn ss sb sp) (wR cI (q 21) (q 22) 6 ss) (wR cI (q 21) (q 22) 6 n_f) (wSee cI q sn n_f sb sp) [((q 20), .inr (3, [.int sn, .ref (q 21), .ref (q 23), .ref (q 25)])), ((q 23), .inr (0, [.ref (q 24)])), ((q 24), .inl (cI, 6, .inl sb)), ((q 25), .inr (0, [.ref (q 26)])), ((q 26), .inl (cI, 6, .inl sp))] [1, 2] [0, 3, 4, 5, 6] [0, 5, 6, 1, 2, 3, 4] [q 21, q 22] ∧ kNd [1, 2] [0, 3, 4, 5, 6] [0, 5, 6, 1, 2, 3, 4] = true := ⟨⟨rfl, rfl, ⟨rfl, rfl⟩, rfl⟩, by decide +kernel⟩
set_option maxRecDepth 100000 in
theorem cut_see_row_3_4 (cI : ClassId) (q : Nat → Nat) (sn : Int32) (ss : Nat → Int32) (sb : Nat → Int32) (sp : Nat → Int32) (n_f : Nat → Int32) : kCut (wSee cI q sn ss sb sp) (wR cI (q 23) (q 24) 6 sb) (wR cI (q 23) (q 24) 6 n_f) (wSee cI q sn ss n_f sp) [((q 20), .inr (3, [.int sn, .ref (q 21), .ref (q 23), .ref (q 25)])), ((q 21), .inr (0, [.ref (q 22)])), ((q 22), .inl (cI, 6, .inl ss)), ((q 25), .inr (0, [.ref (q 26)])), ((q 26), .inl (cI, 6, .inl sp))] [3, 4] [0, 1, 2, 5, 6] [0, 1, 2, 5, 6, 3, 4] [q 23, q 24] ∧ kNd [3, 4] [0, 1, 2, 5, 6] [0, 1, 2, 5, 6, 3, 4] = true := ⟨⟨rfl, rfl, ⟨rfl, rfl⟩, rfl⟩, by decide +kernel⟩
set_option maxRecDepth 100000 in
theorem cut_see_row_5_6 (cI : ClassId) (q : Nat → Nat) (sn : Int32) (ss : Nat → Int32) (sb : Nat → Int32) (sp : Nat → Int32) (n_f : Nat → Int32) : kCut (wSee cI q sn ss sb sp) (wR cI (q 25) (q 26) 6 sp) (wR cI (q 25) (q 26) 6 n_f) (wSee cI q sn ss sb n_f) [((q 20), .inr (3, [.int sn, .ref (q 21), .ref (q 23), .ref (q 25)])), ((q 21), .inr (0, [.ref (q 22)])), ((q 22), .inl (cI, 6, .inl ss)), ((q 23), .inr (0, [.ref (q 24)])), ((q 24), .inl (cI, 6, .inl sb))] [5, 6] [0, 1, 2, 3, 4] [0, 1, 2, 3, 4, 5, 6] [q 25, q 26] ∧ kNd [5, 6] [0, 1, 2, 3, 4] [0, 1, 2, 3, 4, 5, 6] = true := ⟨⟨rfl, rfl, ⟨rfl, rfl⟩, rfl⟩, by decide +kernel⟩
set_option maxRecDepth 100000 in
set_option maxHeartbeats 4000000 in
theorem k_X3_add (l : Launch) (D : va_G) (cI cZ : ClassId) (adK adV : Nat → Nat) (q : Nat → Nat) (sn : Int32) (ss : Nat → Int32) (sb : Nat → Int32) (sp : Nat → Int32) (strip : Int32) (beard : Int32) (part : Int32) : CV l D (kTy cI cZ) (kG adK adV) yX3_add (.code yX3_add cX3_add 4 none :: wsL_law) rm_X3_add [.ref (q 20), .int strip, .int beard, .int part] (wSee cI q sn ss sb sp) (wSee cI q ((f_X3_add sn ss sb sp strip beard part).1) ((f_X3_add sn ss sb sp strip beard part).2.1) ((f_X3_add sn ss sb sp strip beard part).2.2.1) ((f_X3_add sn ss sb sp strip beard part).2.2.2)) := by
  refine CV.of (cc := cX3_add) (maxL := 4) (by decide) rfl (Nat.le_of_ble_eq_true rfl) ?_
  intro p e s m args below meth c A Q ls hx hb hml hts0 hown hA hP hK hD hE hl hret
  have hts : ∀ w ∈ wsL_law, w.before args s = true := fun w h => hts0 w (List.mem_cons_of_mem _ h)
  clear hts0
  have hown : s.vm.findClass RX3 = some m.cls := hown
  have hl : lv_has ls 4 [(0, .ref (q 20)), (1, .int strip), (2, .int beard), (3, .int part)] := hl
  have hS : va_S A s.heap s.heap [] := va_S.rf
  revert hP hS
  suffices hgo : ∀ (H : Heap) (locs : List Loc), va_P D vwCl (wSee cI q sn ss sb sp) H → va_S A s.heap H locs → W p l e rm_X3_add s m args below meth c H locs 0 0 Q (F0 m 0 ls []) from fun a b => hgo _ _ a b
  intro H locs hP hS
  refine lv_aload_n hx hb dX3_add_0 rfl (lv_at hl 0 rfl) ?_
  refine va_get (D := D) (ci := 3) (v := .ref (q 21)) (C := RX3) (T := TX3) (N := 4) hx hb hts inlX3 hown hK hP 0 rfl rfl 1 (by decide) (kw hts kin_4 7 rfl) (fun _ h9 => h9) rfl dX3_add_1 ?_
  refine lv_aload_n hx hb dX3_add_4 rfl (lv_at hl 0 rfl) ?_
  refine va_get (D := D) (ci := 3) (v := .int sn) (C := RX3) (T := TX3) (N := 4) hx hb hts inlX3 hown hK hP 0 rfl rfl 0 (by decide) (kw hts kin_16 14 rfl) (fun _ h9 => h9) rfl dX3_add_5 ?_
  refine lv_iload_n hx hb dX3_add_8 rfl (lv_at hl 1 rfl) ?_
  refine kvv (As := [.int sn, .int strip]) (rest := []) (q0 := 0) (ci := 0) ⟨hx, hb, hml, hown, hts⟩ hP hK hD hS hA hE (k_X0_put l D cI cZ adK adV (q 21) (q 22) 6 ss sn strip (by decide)) (kcv hts kM_X0_put (kin_31 _ (List.mem_of_getElem? (i := 15) rfl)) ⟨rfl, rfl⟩ ⟨Nat.le_of_ble_eq_true rfl, Nat.le_of_ble_eq_true rfl⟩) kBl_G kOk_G (wSee cI q sn (f_X0_put 6 ss sn strip) sb sp) (cut_see_row_1_2 cI q sn ss sb sp (f_X0_put 6 ss sn strip)).1 (cut_see_row_1_2 cI q sn ss sb sp (f_X0_put 6 ss sn strip)).2 rfl rfl rfl rfl hl.1 rfl (Nat.le_of_ble_eq_true rfl) dX3_add_9 (fun H locs hP hD hS => ?_)
  refine lv_aload_n hx hb dX3_add_12 rfl (lv_at hl 0 rfl) ?_
  refine va_get (D := D) (ci := 3) (v := .ref (q 23)) (C := RX3) (T := TX3) (N := 4) hx hb hts inlX3 hown hK hP 0 rfl rfl 2 (by decide) (kw hts kin_4 8 rfl) (fun _ h9 => h9) rfl dX3_add_13 ?_
  refine lv_aload_n hx hb dX3_add_16 rfl (lv_at hl 0 rfl) ?_
  refine va_get (D := D) (ci := 3) (v := .int sn) (C := RX3) (T := TX3) (N := 4) hx hb hts inlX3 hown hK hP 0 rfl rfl 0 (by decide) (kw hts kin_16 14 rfl) (fun _ h9 => h9) rfl dX3_add_17 ?_
  refine lv_iload_n hx hb dX3_add_20 rfl (lv_at hl 2 rfl) ?_
  refine kvv (As := [.int sn, .int beard]) (rest := []) (q0 := 0) (ci := 0) ⟨hx, hb, hml, hown, hts⟩ hP hK hD hS hA hE (k_X0_put l D cI cZ adK adV (q 23) (q 24) 6 sb sn beard (by decide)) (kcv hts kM_X0_put (kin_31 _ (List.mem_of_getElem? (i := 15) rfl)) ⟨rfl, rfl⟩ ⟨Nat.le_of_ble_eq_true rfl, Nat.le_of_ble_eq_true rfl⟩) kBl_G kOk_G (wSee cI q sn (f_X0_put 6 ss sn strip) (f_X0_put 6 sb sn beard) sp) (cut_see_row_3_4 cI q sn (f_X0_put 6 ss sn strip) sb sp (f_X0_put 6 sb sn beard)).1 (cut_see_row_3_4 cI q sn (f_X0_put 6 ss sn strip) sb sp (f_X0_put 6 sb sn beard)).2 rfl rfl rfl rfl hl.1 rfl (Nat.le_of_ble_eq_true rfl) dX3_add_21 (fun H locs hP hD hS => ?_)
  refine lv_aload_n hx hb dX3_add_24 rfl (lv_at hl 0 rfl) ?_
  refine va_get (D := D) (ci := 3) (v := .ref (q 25)) (C := RX3) (T := TX3) (N := 4) hx hb hts inlX3 hown hK hP 0 rfl rfl 3 (by decide) (kw hts kin_4 9 rfl) (fun _ h9 => h9) rfl dX3_add_25 ?_
  refine lv_aload_n hx hb dX3_add_28 rfl (lv_at hl 0 rfl) ?_
  refine va_get (D := D) (ci := 3) (v := .int sn) (C := RX3) (T := TX3) (N := 4) hx hb hts inlX3 hown hK hP 0 rfl rfl 0 (by decide) (kw hts kin_16 14 rfl) (fun _ h9 => h9) rfl dX3_add_29 ?_
  refine lv_iload_n hx hb dX3_add_32 rfl (lv_at hl 3 rfl) ?_
  refine kvv (As := [.int sn, .int part]) (rest := []) (q0 := 0) (ci := 0) ⟨hx, hb, hml, hown, hts⟩ hP hK hD hS hA hE (k_X0_put l D cI cZ adK adV (q 25) (q 26) 6 sp sn part (by decide)) (kcv hts kM_X0_put (kin_31 _ (List.mem_of_getElem? (i := 15) rfl)) ⟨rfl, rfl⟩ ⟨Nat.le_of_ble_eq_true rfl, Nat.le_of_ble_eq_true rfl⟩) kBl_G kOk_G (wSee cI q sn (f_X0_put 6 ss sn strip) (f_X0_put 6 sb sn beard) (f_X0_put 6 sp sn part)) (cut_see_row_5_6 cI q sn (f_X0_put 6 ss sn strip) (f_X0_put 6 sb sn beard) sp (f_X0_put 6 sp sn part)).1 (cut_see_row_5_6 cI q sn (f_X0_put 6 ss sn strip) (f_X0_put 6 sb sn beard) sp (f_X0_put 6 sp sn part)).2 rfl rfl rfl rfl hl.1 rfl (Nat.le_of_ble_eq_true rfl) dX3_add_33 (fun H locs hP hD hS => ?_)
  refine lv_aload_n hx hb dX3_add_36 rfl (lv_at hl 0 rfl) ?_
  refine lv_bipush (v := 6) hx hb dX3_add_37 (by decide) ?_
  refine lv_aload_n hx hb dX3_add_39 rfl (lv_at hl 0 rfl) ?_
  refine va_get (D := D) (ci := 3) (v := .int sn) (C := RX3) (T := TX3) (N := 4) hx hb hts inlX3 hown hK hP 0 rfl rfl 0 (by decide) (kw hts kin_16 14 rfl) (fun _ h9 => h9) rfl dX3_add_40 ?_
  refine lv_iconst (v := 1) hx hb dX3_add_43 (by decide) ?_
  refine lv_iadd hx hb dX3_add_44 ?_
  refine va_mmin hx hb (hml.trans hl.1.symm) hown (kw hts kin_31 14 rfl) (kw hts kin_5 18 rfl) (kw hts kin_3 4 rfl) (kw hts kin_5 19 rfl) (Nat.le_of_ble_eq_true rfl) (Nat.le_of_ble_eq_true rfl) (Nat.zero_le _) (Nat.zero_le _) dX3_add_45 ?_
  refine va_put (D := D) (ci := 3) (v := .int (if (sn + 1) < 6 then (sn + 1) else 6)) (ty := .int) (C := RX3) (T := TX3) (N := 4) hx hb hts inlX3 tyX3 tyX3_ok nmX3 hown hK hP hD hS 0 rfl rfl 0 (by decide) (kw hts kin_16 14 rfl) (fun _ h9 => h9) rfl (by decide +kernel) rfl rfl (Nat.le_of_ble_eq_true rfl) dX3_add_48 (fun H locs hP hD hS => ?_)
  have hP : va_P D vwCl (wSee cI q (if (sn + 1) < 6 then (sn + 1) else 6) (f_X0_put 6 ss sn strip) (f_X0_put 6 sb sn beard) (f_X0_put 6 sp sn part)) H := hP
  have hD : va_D A (wSee cI q (if (sn + 1) < 6 then (sn + 1) else 6) (f_X0_put 6 ss sn strip) (f_X0_put 6 sb sn beard) (f_X0_put 6 sp sn part)) := hD
  have hf : (f_X3_add sn ss sb sp strip beard part) = ((if (sn + 1) < 6 then (sn + 1) else 6), (f_X0_put 6 ss sn strip), (f_X0_put 6 sb sn beard), (f_X0_put 6 sp sn part)) := rfl
  rw [hf] at hret
  dsimp only at hret
  exact hret _ _ _ _ hP hS dX3_add_51
