abbrev rm_X1_init : Room := { frames := 3, cells := 6, slots := 219, locals := 80 }
set_option maxRecDepth 100000 in
set_option maxHeartbeats 4000000 in
theorem k_X1_init (l : Launch) (D : va_G) (cI cZ : ClassId) (adK adV : Nat → Nat) (h : Nat) : CN l D (kTy cI cZ) (kG adK adV) yX1_init (.code yX1_init cX1_init 1 none :: wsL_law) rm_X1_init [.ref h] [(h, .inr (1, [.null, .null, .null, .int 0, .int 0, .int 0, .int 0, .int 0, .int 0]))] (fun t : Nat × Nat × Nat × Nat × Nat × Nat => [(h, .inr (1, [.ref t.1, .ref t.2.2.1, .ref t.2.2.2.2.1, .int 0, .int 0, .int 0, .int 0, .int 0, .int 0])), (t.1, .inr (0, [.ref t.2.1])), (t.2.1, .inl (cI, 160, .inl fun _ => 0)), (t.2.2.1, .inr (0, [.ref t.2.2.2.1])), (t.2.2.2.1, .inl (cI, 14, .inl fun _ => 0)), (t.2.2.2.2.1, .inr (0, [.ref t.2.2.2.2.2])), (t.2.2.2.2.2, .inl (cI, 42, .inl fun _ => 0))]) 6 (219) := by
  refine CN.of (cc := cX1_init) (maxL := 1) (by decide) rfl (Nat.le_of_ble_eq_true rfl) ?_
  intro p e s m args below meth c A Q ls hx hb hml hts0 hown hin hA hP hK hD hE hl hret
  have hts : ∀ w ∈ wsL_law, w.before args s = true := fun w h => hts0 w (List.mem_cons_of_mem _ h)
  clear hts0
  have hown : s.vm.findClass RX1 = some m.cls := hown
  have hl : lv_has ls 1 [(0, .ref h)] := hl
  have hS : va_S A s.heap s.heap [] := va_S.rf
  revert hP hS
  suffices hgo : ∀ (H : Heap) (locs : List Loc), va_P D vwCl [(h, .inr (1, [.null, .null, .null, .int 0, .int 0, .int 0, .int 0, .int 0, .int 0]))] H → va_S A s.heap H locs → W p l e rm_X1_init s m args below meth c H locs 0 0 Q (F0 m 0 ls []) from fun a b => hgo _ _ a b
  intro H locs hP hS
  refine lv_aload_n hx hb dX1_init_0 rfl (lv_at hl 0 rfl) ?_
  refine W.objInit hx hb hown (kw hts kin_2 15 rfl) (kw hts kin_1 10 rfl) (kw hts kin_1 11 rfl) rfl (by rw [hml]; exact hl.1) rfl dX1_init_1 (Nat.le_of_ble_eq_true rfl) (Nat.le_of_ble_eq_true rfl) ?_
  refine W.eq (g2 := F0 m 4 ls []) rfl ?_
  refine lv_aload_n hx hb dX1_init_4 rfl (lv_at hl 0 rfl) ?_
  refine va_new (ci := 0) (fs := [.null]) (C := RX0) (T := TX0) (N := 1) hx hb hts inlX0 tyX0 tyX0_ok hown (kw hts kin_2 16 rfl) (kw hts kin_2 17 rfl) (kw hts kin_2 18 rfl) hK hP hD hS hA rfl (fun j hj => by rcases (show j = 0 by omega) with rfl <;> rfl) (Nat.le_of_ble_eq_true rfl) (Nat.le_of_ble_eq_true rfl) dX1_init_5 (fun q5 H hP hD hS => ?_)
  have hP : va_P D vwCl [(h, .inr (1, [.null, .null, .null, .int 0, .int 0, .int 0, .int 0, .int 0, .int 0])), (q5, .inr (0, [.null]))] H := hP
  have hD : va_D A [(h, .inr (1, [.null, .null, .null, .int 0, .int 0, .int 0, .int 0, .int 0, .int 0])), (q5, .inr (0, [.null]))] := hD
  refine W.widen (k := 1) (n := 1) (by omega) (by omega) ?_
  refine lv_dup hx hb dX1_init_8 rfl ?_
  refine lv_sipush (v := 160) hx hb dX1_init_9 (by decide) ?_
  refine kvc (n := 1) (As := [.int 160]) (rest := [.ref q5, .ref h]) (isC := [1]) (isR := [0]) (wr := [(h, .inr (1, [.null, .null, .null, .int 0, .int 0, .int 0, .int 0, .int 0, .int 0]))]) ⟨hx, hb, hml, hown, hts⟩ hP hK hD hS hA hE (k_X0_init l D cI cZ adK adV q5 160 160 (by decide) (by decide) (by decide) (by decide)) (kcI (n := 1) hts (kin_3 _ (List.mem_of_getElem? (i := 0) rfl)) (kin_2 _ (List.mem_of_getElem? (i := 18) rfl)) (kin_2 _ (List.mem_of_getElem? (i := 23) rfl)) (kin_2 _ (List.mem_of_getElem? (i := 22) rfl)) rfl rfl rfl (by decide +kernel) ⟨(Nat.le_of_ble_eq_true rfl), (Nat.le_of_ble_eq_true rfl)⟩) kBl_G kOk_G rfl rfl (by decide) rfl hl.1 rfl (Nat.le_of_ble_eq_true rfl) dX1_init_12 ⟨(Nat.le_of_ble_eq_true rfl), (Nat.le_of_ble_eq_true rfl)⟩ (fun a5 H locs hP hD hS => ?_)
  have hP : va_P D vwCl [(h, .inr (1, [.null, .null, .null, .int 0, .int 0, .int 0, .int 0, .int 0, .int 0])), (q5, .inr (0, [.ref a5])), (a5, .inl (cI, 160, .inl fun _ => 0))] H := hP
  have hD : va_D A [(h, .inr (1, [.null, .null, .null, .int 0, .int 0, .int 0, .int 0, .int 0, .int 0])), (q5, .inr (0, [.ref a5])), (a5, .inl (cI, 160, .inl fun _ => 0))] := hD
  refine W.widen (k := 2) (n := 161) (by omega) (by omega) ?_
  refine va_putF (D := D) (ci := 1) (v := .ref q5) (ty := .object "RazorTalk$Row") (C := RX1) (T := TX1) (N := 9) hx hb hts inlX1 tyX1 tyX1_ok nmX1 hown hK hP hD hS 0 rfl rfl 0 (by decide) (kw hts kin_2 19 rfl) (fun _ h9 => h9) rfl hin rfl (by decide +kernel) rfl rfl (Nat.le_of_ble_eq_true rfl) dX1_init_15 (fun H locs hP hD hS => ?_)
  have hP : va_P D vwCl [(h, .inr (1, [.ref q5, .null, .null, .int 0, .int 0, .int 0, .int 0, .int 0, .int 0])), (q5, .inr (0, [.ref a5])), (a5, .inl (cI, 160, .inl fun _ => 0))] H := hP
  have hD : va_D A [(h, .inr (1, [.ref q5, .null, .null, .int 0, .int 0, .int 0, .int 0, .int 0, .int 0])), (q5, .inr (0, [.ref a5])), (a5, .inl (cI, 160, .inl fun _ => 0))] := hD
  refine lv_aload_n hx hb dX1_init_18 rfl (lv_at hl 0 rfl) ?_
  refine va_new (ci := 0) (fs := [.null]) (C := RX0) (T := TX0) (N := 1) hx hb hts inlX0 tyX0 tyX0_ok hown (kw hts kin_2 16 rfl) (kw hts kin_2 17 rfl) (kw hts kin_2 18 rfl) hK hP hD hS hA rfl (fun j hj => by rcases (show j = 0 by omega) with rfl <;> rfl) (Nat.le_of_ble_eq_true rfl) (Nat.le_of_ble_eq_true rfl) dX1_init_19 (fun q19 H hP hD hS => ?_)
  have hP : va_P D vwCl [(h, .inr (1, [.ref q5, .null, .null, .int 0, .int 0, .int 0, .int 0, .int 0, .int 0])), (q5, .inr (0, [.ref a5])), (a5, .inl (cI, 160, .inl fun _ => 0)), (q19, .inr (0, [.null]))] H := hP
  have hD : va_D A [(h, .inr (1, [.ref q5, .null, .null, .int 0, .int 0, .int 0, .int 0, .int 0, .int 0])), (q5, .inr (0, [.ref a5])), (a5, .inl (cI, 160, .inl fun _ => 0)), (q19, .inr (0, [.null]))] := hD
  refine W.widen (k := 3) (n := 162) (by omega) (by omega) ?_
  refine lv_dup hx hb dX1_init_22 rfl ?_
  refine lv_bipush (v := 14) hx hb dX1_init_23 (by decide) ?_
  refine kvc (n := 1) (As := [.int 14]) (rest := [.ref q19, .ref h]) (isC := [3]) (isR := [0, 1, 2]) (wr := [(h, .inr (1, [.ref q5, .null, .null, .int 0, .int 0, .int 0, .int 0, .int 0, .int 0])), (q5, .inr (0, [.ref a5])), (a5, .inl (cI, 160, .inl fun _ => 0))]) ⟨hx, hb, hml, hown, hts⟩ hP hK hD hS hA hE (k_X0_init l D cI cZ adK adV q19 14 14 (by decide) (by decide) (by decide) (by decide)) (kcI (n := 1) hts (kin_3 _ (List.mem_of_getElem? (i := 0) rfl)) (kin_2 _ (List.mem_of_getElem? (i := 18) rfl)) (kin_2 _ (List.mem_of_getElem? (i := 23) rfl)) (kin_2 _ (List.mem_of_getElem? (i := 22) rfl)) rfl rfl rfl (by decide +kernel) ⟨(Nat.le_of_ble_eq_true rfl), (Nat.le_of_ble_eq_true rfl)⟩) kBl_G kOk_G rfl rfl (by decide) rfl hl.1 rfl (Nat.le_of_ble_eq_true rfl) dX1_init_25 ⟨(Nat.le_of_ble_eq_true rfl), (Nat.le_of_ble_eq_true rfl)⟩ (fun a19 H locs hP hD hS => ?_)
  have hP : va_P D vwCl [(h, .inr (1, [.ref q5, .null, .null, .int 0, .int 0, .int 0, .int 0, .int 0, .int 0])), (q5, .inr (0, [.ref a5])), (a5, .inl (cI, 160, .inl fun _ => 0)), (q19, .inr (0, [.ref a19])), (a19, .inl (cI, 14, .inl fun _ => 0))] H := hP
  have hD : va_D A [(h, .inr (1, [.ref q5, .null, .null, .int 0, .int 0, .int 0, .int 0, .int 0, .int 0])), (q5, .inr (0, [.ref a5])), (a5, .inl (cI, 160, .inl fun _ => 0)), (q19, .inr (0, [.ref a19])), (a19, .inl (cI, 14, .inl fun _ => 0))] := hD
  refine W.widen (k := 4) (n := 176) (by omega) (by omega) ?_
  refine va_putF (D := D) (ci := 1) (v := .ref q19) (ty := .object "RazorTalk$Row") (C := RX1) (T := TX1) (N := 9) hx hb hts inlX1 tyX1 tyX1_ok nmX1 hown hK hP hD hS 0 rfl rfl 1 (by decide) (kw hts kin_2 20 rfl) (fun _ h9 => h9) rfl hin rfl (by decide +kernel) rfl rfl (Nat.le_of_ble_eq_true rfl) dX1_init_28 (fun H locs hP hD hS => ?_)
  have hP : va_P D vwCl [(h, .inr (1, [.ref q5, .ref q19, .null, .int 0, .int 0, .int 0, .int 0, .int 0, .int 0])), (q5, .inr (0, [.ref a5])), (a5, .inl (cI, 160, .inl fun _ => 0)), (q19, .inr (0, [.ref a19])), (a19, .inl (cI, 14, .inl fun _ => 0))] H := hP
  have hD : va_D A [(h, .inr (1, [.ref q5, .ref q19, .null, .int 0, .int 0, .int 0, .int 0, .int 0, .int 0])), (q5, .inr (0, [.ref a5])), (a5, .inl (cI, 160, .inl fun _ => 0)), (q19, .inr (0, [.ref a19])), (a19, .inl (cI, 14, .inl fun _ => 0))] := hD
  refine lv_aload_n hx hb dX1_init_31 rfl (lv_at hl 0 rfl) ?_
  refine va_new (ci := 0) (fs := [.null]) (C := RX0) (T := TX0) (N := 1) hx hb hts inlX0 tyX0 tyX0_ok hown (kw hts kin_2 16 rfl) (kw hts kin_2 17 rfl) (kw hts kin_2 18 rfl) hK hP hD hS hA rfl (fun j hj => by rcases (show j = 0 by omega) with rfl <;> rfl) (Nat.le_of_ble_eq_true rfl) (Nat.le_of_ble_eq_true rfl) dX1_init_32 (fun q32 H hP hD hS => ?_)
  have hP : va_P D vwCl [(h, .inr (1, [.ref q5, .ref q19, .null, .int 0, .int 0, .int 0, .int 0, .int 0, .int 0])), (q5, .inr (0, [.ref a5])), (a5, .inl (cI, 160, .inl fun _ => 0)), (q19, .inr (0, [.ref a19])), (a19, .inl (cI, 14, .inl fun _ => 0)), (q32, .inr (0, [.null]))] H := hP
  have hD : va_D A [(h, .inr (1, [.ref q5, .ref q19, .null, .int 0, .int 0, .int 0, .int 0, .int 0, .int 0])), (q5, .inr (0, [.ref a5])), (a5, .inl (cI, 160, .inl fun _ => 0)), (q19, .inr (0, [.ref a19])), (a19, .inl (cI, 14, .inl fun _ => 0)), (q32, .inr (0, [.null]))] := hD
  refine W.widen (k := 5) (n := 177) (by omega) (by omega) ?_
  refine lv_dup hx hb dX1_init_35 rfl ?_
  refine lv_bipush (v := 42) hx hb dX1_init_36 (by decide) ?_
  refine kvc (n := 1) (As := [.int 42]) (rest := [.ref q32, .ref h]) (isC := [5]) (isR := [0, 1, 2, 3, 4]) (wr := [(h, .inr (1, [.ref q5, .ref q19, .null, .int 0, .int 0, .int 0, .int 0, .int 0, .int 0])), (q5, .inr (0, [.ref a5])), (a5, .inl (cI, 160, .inl fun _ => 0)), (q19, .inr (0, [.ref a19])), (a19, .inl (cI, 14, .inl fun _ => 0))]) ⟨hx, hb, hml, hown, hts⟩ hP hK hD hS hA hE (k_X0_init l D cI cZ adK adV q32 42 42 (by decide) (by decide) (by decide) (by decide)) (kcI (n := 1) hts (kin_3 _ (List.mem_of_getElem? (i := 0) rfl)) (kin_2 _ (List.mem_of_getElem? (i := 18) rfl)) (kin_2 _ (List.mem_of_getElem? (i := 23) rfl)) (kin_2 _ (List.mem_of_getElem? (i := 22) rfl)) rfl rfl rfl (by decide +kernel) ⟨(Nat.le_of_ble_eq_true rfl), (Nat.le_of_ble_eq_true rfl)⟩) kBl_G kOk_G rfl rfl (by decide) rfl hl.1 rfl (Nat.le_of_ble_eq_true rfl) dX1_init_38 ⟨(Nat.le_of_ble_eq_true rfl), (Nat.le_of_ble_eq_true rfl)⟩ (fun a32 H locs hP hD hS => ?_)
  have hP : va_P D vwCl [(h, .inr (1, [.ref q5, .ref q19, .null, .int 0, .int 0, .int 0, .int 0, .int 0, .int 0])), (q5, .inr (0, [.ref a5])), (a5, .inl (cI, 160, .inl fun _ => 0)), (q19, .inr (0, [.ref a19])), (a19, .inl (cI, 14, .inl fun _ => 0)), (q32, .inr (0, [.ref a32])), (a32, .inl (cI, 42, .inl fun _ => 0))] H := hP
  have hD : va_D A [(h, .inr (1, [.ref q5, .ref q19, .null, .int 0, .int 0, .int 0, .int 0, .int 0, .int 0])), (q5, .inr (0, [.ref a5])), (a5, .inl (cI, 160, .inl fun _ => 0)), (q19, .inr (0, [.ref a19])), (a19, .inl (cI, 14, .inl fun _ => 0)), (q32, .inr (0, [.ref a32])), (a32, .inl (cI, 42, .inl fun _ => 0))] := hD
  refine W.widen (k := 6) (n := 219) (by omega) (by omega) ?_
  refine va_putF (D := D) (ci := 1) (v := .ref q32) (ty := .object "RazorTalk$Row") (C := RX1) (T := TX1) (N := 9) hx hb hts inlX1 tyX1 tyX1_ok nmX1 hown hK hP hD hS 0 rfl rfl 2 (by decide) (kw hts kin_2 21 rfl) (fun _ h9 => h9) rfl hin rfl (by decide +kernel) rfl rfl (Nat.le_of_ble_eq_true rfl) dX1_init_41 (fun H locs hP hD hS => ?_)
  have hP : va_P D vwCl [(h, .inr (1, [.ref q5, .ref q19, .ref q32, .int 0, .int 0, .int 0, .int 0, .int 0, .int 0])), (q5, .inr (0, [.ref a5])), (a5, .inl (cI, 160, .inl fun _ => 0)), (q19, .inr (0, [.ref a19])), (a19, .inl (cI, 14, .inl fun _ => 0)), (q32, .inr (0, [.ref a32])), (a32, .inl (cI, 42, .inl fun _ => 0))] H := hP
  have hD : va_D A [(h, .inr (1, [.ref q5, .ref q19, .ref q32, .int 0, .int 0, .int 0, .int 0, .int 0, .int 0])), (q5, .inr (0, [.ref a5])), (a5, .inl (cI, 160, .inl fun _ => 0)), (q19, .inr (0, [.ref a19])), (a19, .inl (cI, 14, .inl fun _ => 0)), (q32, .inr (0, [.ref a32])), (a32, .inl (cI, 42, .inl fun _ => 0))] := hD
  exact hret (q5, a5, q19, a19, q32, a32) H _ ls 44 hP hD hS dX1_init_44
abbrev rm_X5_init : Room := { frames := 3, cells := 8, slots := 60, locals := 80 }
set_option maxRecDepth 100000 in
set_option maxHeartbeats 4000000 in
theorem k_X5_init (l : Launch) (D : va_G) (cI cZ : ClassId) (adK adV : Nat → Nat) (h : Nat) : CN l D (kTy cI cZ) (kG adK adV) yX5_init (.code yX5_init cX5_init 1 none :: wsL_law) rm_X5_init [.ref h] [(h, .inr (5, [.int 0, .int 0, .int 0, .null, .null, .null, .null]))] (fun t : Nat × Nat × Nat × Nat × Nat × Nat × Nat × Nat => [(h, .inr (5, [.int 2, .int 0, .int 0, .ref t.1, .ref t.2.2.1, .ref t.2.2.2.2.1, .ref t.2.2.2.2.2.2.1])), (t.1, .inr (0, [.ref t.2.1])), (t.2.1, .inl (cI, 6, .inl fun _ => 0)), (t.2.2.1, .inr (0, [.ref t.2.2.2.1])), (t.2.2.2.1, .inl (cI, 6, .inl fun _ => 0)), (t.2.2.2.2.1, .inr (0, [.ref t.2.2.2.2.2.1])), (t.2.2.2.2.2.1, .inl (cI, 36, .inl fun _ => 0)), (t.2.2.2.2.2.2.1, .inr (0, [.ref t.2.2.2.2.2.2.2])), (t.2.2.2.2.2.2.2, .inl (cI, 8, .inl fun _ => 0))]) 8 (60) := by
  refine CN.of (cc := cX5_init) (maxL := 1) (by decide) rfl (Nat.le_of_ble_eq_true rfl) ?_
  intro p e s m args below meth c A Q ls hx hb hml hts0 hown hin hA hP hK hD hE hl hret
  have hts : ∀ w ∈ wsL_law, w.before args s = true := fun w h => hts0 w (List.mem_cons_of_mem _ h)
  clear hts0
  have hown : s.vm.findClass RX5 = some m.cls := hown
  have hl : lv_has ls 1 [(0, .ref h)] := hl
  have hS : va_S A s.heap s.heap [] := va_S.rf
  revert hP hS
  suffices hgo : ∀ (H : Heap) (locs : List Loc), va_P D vwCl [(h, .inr (5, [.int 0, .int 0, .int 0, .null, .null, .null, .null]))] H → va_S A s.heap H locs → W p l e rm_X5_init s m args below meth c H locs 0 0 Q (F0 m 0 ls []) from fun a b => hgo _ _ a b
  intro H locs hP hS
  refine lv_aload_n hx hb dX5_init_0 rfl (lv_at hl 0 rfl) ?_
  refine W.objInit hx hb hown (kw hts kin_3 11 rfl) (kw hts kin_1 10 rfl) (kw hts kin_1 11 rfl) rfl (by rw [hml]; exact hl.1) rfl dX5_init_1 (Nat.le_of_ble_eq_true rfl) (Nat.le_of_ble_eq_true rfl) ?_
  refine W.eq (g2 := F0 m 4 ls []) rfl ?_
  refine lv_aload_n hx hb dX5_init_4 rfl (lv_at hl 0 rfl) ?_
  refine lv_iconst (v := 2) hx hb dX5_init_5 (by decide) ?_
  refine va_put (D := D) (ci := 5) (v := .int 2) (ty := .int) (C := RX5) (T := TX5) (N := 7) hx hb hts inlX5 tyX5 tyX5_ok nmX5 hown hK hP hD hS 0 rfl rfl 0 (by decide) (kw hts kin_3 12 rfl) (fun _ h9 => h9) rfl (by decide +kernel) rfl rfl (Nat.le_of_ble_eq_true rfl) dX5_init_6 (fun H locs hP hD hS => ?_)
  have hP : va_P D vwCl [(h, .inr (5, [.int 2, .int 0, .int 0, .null, .null, .null, .null]))] H := hP
  have hD : va_D A [(h, .inr (5, [.int 2, .int 0, .int 0, .null, .null, .null, .null]))] := hD
  refine lv_aload_n hx hb dX5_init_9 rfl (lv_at hl 0 rfl) ?_
  refine va_new (ci := 0) (fs := [.null]) (C := RX0) (T := TX0) (N := 1) hx hb hts inlX0 tyX0 tyX0_ok hown (kw hts kin_3 13 rfl) (kw hts kin_2 17 rfl) (kw hts kin_2 18 rfl) hK hP hD hS hA rfl (fun j hj => by rcases (show j = 0 by omega) with rfl <;> rfl) (Nat.le_of_ble_eq_true rfl) (Nat.le_of_ble_eq_true rfl) dX5_init_10 (fun q10 H hP hD hS => ?_)
  have hP : va_P D vwCl [(h, .inr (5, [.int 2, .int 0, .int 0, .null, .null, .null, .null])), (q10, .inr (0, [.null]))] H := hP
  have hD : va_D A [(h, .inr (5, [.int 2, .int 0, .int 0, .null, .null, .null, .null])), (q10, .inr (0, [.null]))] := hD
  refine W.widen (k := 1) (n := 1) (by omega) (by omega) ?_
  refine lv_dup hx hb dX5_init_13 rfl ?_
  refine lv_bipush (v := 6) hx hb dX5_init_14 (by decide) ?_
  refine kvc (n := 1) (As := [.int 6]) (rest := [.ref q10, .ref h]) (isC := [1]) (isR := [0]) (wr := [(h, .inr (5, [.int 2, .int 0, .int 0, .null, .null, .null, .null]))]) ⟨hx, hb, hml, hown, hts⟩ hP hK hD hS hA hE (k_X0_init l D cI cZ adK adV q10 6 6 (by decide) (by decide) (by decide) (by decide)) (kcI (n := 1) hts (kin_3 _ (List.mem_of_getElem? (i := 0) rfl)) (kin_2 _ (List.mem_of_getElem? (i := 18) rfl)) (kin_2 _ (List.mem_of_getElem? (i := 23) rfl)) (kin_3 _ (List.mem_of_getElem? (i := 18) rfl)) rfl rfl rfl (by decide +kernel) ⟨(Nat.le_of_ble_eq_true rfl), (Nat.le_of_ble_eq_true rfl)⟩) kBl_G kOk_G rfl rfl (by decide) rfl hl.1 rfl (Nat.le_of_ble_eq_true rfl) dX5_init_16 ⟨(Nat.le_of_ble_eq_true rfl), (Nat.le_of_ble_eq_true rfl)⟩ (fun a10 H locs hP hD hS => ?_)
  have hP : va_P D vwCl [(h, .inr (5, [.int 2, .int 0, .int 0, .null, .null, .null, .null])), (q10, .inr (0, [.ref a10])), (a10, .inl (cI, 6, .inl fun _ => 0))] H := hP
  have hD : va_D A [(h, .inr (5, [.int 2, .int 0, .int 0, .null, .null, .null, .null])), (q10, .inr (0, [.ref a10])), (a10, .inl (cI, 6, .inl fun _ => 0))] := hD
  refine W.widen (k := 2) (n := 7) (by omega) (by omega) ?_
  refine va_putF (D := D) (ci := 5) (v := .ref q10) (ty := .object "RazorTalk$Row") (C := RX5) (T := TX5) (N := 7) hx hb hts inlX5 tyX5 tyX5_ok nmX5 hown hK hP hD hS 0 rfl rfl 3 (by decide) (kw hts kin_3 14 rfl) (fun _ h9 => h9) rfl hin rfl (by decide +kernel) rfl rfl (Nat.le_of_ble_eq_true rfl) dX5_init_19 (fun H locs hP hD hS => ?_)
  have hP : va_P D vwCl [(h, .inr (5, [.int 2, .int 0, .int 0, .ref q10, .null, .null, .null])), (q10, .inr (0, [.ref a10])), (a10, .inl (cI, 6, .inl fun _ => 0))] H := hP
  have hD : va_D A [(h, .inr (5, [.int 2, .int 0, .int 0, .ref q10, .null, .null, .null])), (q10, .inr (0, [.ref a10])), (a10, .inl (cI, 6, .inl fun _ => 0))] := hD
  refine lv_aload_n hx hb dX5_init_22 rfl (lv_at hl 0 rfl) ?_
  refine va_new (ci := 0) (fs := [.null]) (C := RX0) (T := TX0) (N := 1) hx hb hts inlX0 tyX0 tyX0_ok hown (kw hts kin_3 13 rfl) (kw hts kin_2 17 rfl) (kw hts kin_2 18 rfl) hK hP hD hS hA rfl (fun j hj => by rcases (show j = 0 by omega) with rfl <;> rfl) (Nat.le_of_ble_eq_true rfl) (Nat.le_of_ble_eq_true rfl) dX5_init_23 (fun q23 H hP hD hS => ?_)
  have hP : va_P D vwCl [(h, .inr (5, [.int 2, .int 0, .int 0, .ref q10, .null, .null, .null])), (q10, .inr (0, [.ref a10])), (a10, .inl (cI, 6, .inl fun _ => 0)), (q23, .inr (0, [.null]))] H := hP
  have hD : va_D A [(h, .inr (5, [.int 2, .int 0, .int 0, .ref q10, .null, .null, .null])), (q10, .inr (0, [.ref a10])), (a10, .inl (cI, 6, .inl fun _ => 0)), (q23, .inr (0, [.null]))] := hD
  refine W.widen (k := 3) (n := 8) (by omega) (by omega) ?_
  refine lv_dup hx hb dX5_init_26 rfl ?_
  refine lv_bipush (v := 6) hx hb dX5_init_27 (by decide) ?_
  refine kvc (n := 1) (As := [.int 6]) (rest := [.ref q23, .ref h]) (isC := [3]) (isR := [0, 1, 2]) (wr := [(h, .inr (5, [.int 2, .int 0, .int 0, .ref q10, .null, .null, .null])), (q10, .inr (0, [.ref a10])), (a10, .inl (cI, 6, .inl fun _ => 0))]) ⟨hx, hb, hml, hown, hts⟩ hP hK hD hS hA hE (k_X0_init l D cI cZ adK adV q23 6 6 (by decide) (by decide) (by decide) (by decide)) (kcI (n := 1) hts (kin_3 _ (List.mem_of_getElem? (i := 0) rfl)) (kin_2 _ (List.mem_of_getElem? (i := 18) rfl)) (kin_2 _ (List.mem_of_getElem? (i := 23) rfl)) (kin_3 _ (List.mem_of_getElem? (i := 18) rfl)) rfl rfl rfl (by decide +kernel) ⟨(Nat.le_of_ble_eq_true rfl), (Nat.le_of_ble_eq_true rfl)⟩) kBl_G kOk_G rfl rfl (by decide) rfl hl.1 rfl (Nat.le_of_ble_eq_true rfl) dX5_init_29 ⟨(Nat.le_of_ble_eq_true rfl), (Nat.le_of_ble_eq_true rfl)⟩ (fun a23 H locs hP hD hS => ?_)
  have hP : va_P D vwCl [(h, .inr (5, [.int 2, .int 0, .int 0, .ref q10, .null, .null, .null])), (q10, .inr (0, [.ref a10])), (a10, .inl (cI, 6, .inl fun _ => 0)), (q23, .inr (0, [.ref a23])), (a23, .inl (cI, 6, .inl fun _ => 0))] H := hP
  have hD : va_D A [(h, .inr (5, [.int 2, .int 0, .int 0, .ref q10, .null, .null, .null])), (q10, .inr (0, [.ref a10])), (a10, .inl (cI, 6, .inl fun _ => 0)), (q23, .inr (0, [.ref a23])), (a23, .inl (cI, 6, .inl fun _ => 0))] := hD
  refine W.widen (k := 4) (n := 14) (by omega) (by omega) ?_
  refine va_putF (D := D) (ci := 5) (v := .ref q23) (ty := .object "RazorTalk$Row") (C := RX5) (T := TX5) (N := 7) hx hb hts inlX5 tyX5 tyX5_ok nmX5 hown hK hP hD hS 0 rfl rfl 4 (by decide) (kw hts kin_3 15 rfl) (fun _ h9 => h9) rfl hin rfl (by decide +kernel) rfl rfl (Nat.le_of_ble_eq_true rfl) dX5_init_32 (fun H locs hP hD hS => ?_)
  have hP : va_P D vwCl [(h, .inr (5, [.int 2, .int 0, .int 0, .ref q10, .ref q23, .null, .null])), (q10, .inr (0, [.ref a10])), (a10, .inl (cI, 6, .inl fun _ => 0)), (q23, .inr (0, [.ref a23])), (a23, .inl (cI, 6, .inl fun _ => 0))] H := hP
  have hD : va_D A [(h, .inr (5, [.int 2, .int 0, .int 0, .ref q10, .ref q23, .null, .null])), (q10, .inr (0, [.ref a10])), (a10, .inl (cI, 6, .inl fun _ => 0)), (q23, .inr (0, [.ref a23])), (a23, .inl (cI, 6, .inl fun _ => 0))] := hD
  refine lv_aload_n hx hb dX5_init_35 rfl (lv_at hl 0 rfl) ?_
  refine va_new (ci := 0) (fs := [.null]) (C := RX0) (T := TX0) (N := 1) hx hb hts inlX0 tyX0 tyX0_ok hown (kw hts kin_3 13 rfl) (kw hts kin_2 17 rfl) (kw hts kin_2 18 rfl) hK hP hD hS hA rfl (fun j hj => by rcases (show j = 0 by omega) with rfl <;> rfl) (Nat.le_of_ble_eq_true rfl) (Nat.le_of_ble_eq_true rfl) dX5_init_36 (fun q36 H hP hD hS => ?_)
  have hP : va_P D vwCl [(h, .inr (5, [.int 2, .int 0, .int 0, .ref q10, .ref q23, .null, .null])), (q10, .inr (0, [.ref a10])), (a10, .inl (cI, 6, .inl fun _ => 0)), (q23, .inr (0, [.ref a23])), (a23, .inl (cI, 6, .inl fun _ => 0)), (q36, .inr (0, [.null]))] H := hP
  have hD : va_D A [(h, .inr (5, [.int 2, .int 0, .int 0, .ref q10, .ref q23, .null, .null])), (q10, .inr (0, [.ref a10])), (a10, .inl (cI, 6, .inl fun _ => 0)), (q23, .inr (0, [.ref a23])), (a23, .inl (cI, 6, .inl fun _ => 0)), (q36, .inr (0, [.null]))] := hD
  refine W.widen (k := 5) (n := 15) (by omega) (by omega) ?_
  refine lv_dup hx hb dX5_init_39 rfl ?_
  refine lv_bipush (v := 36) hx hb dX5_init_40 (by decide) ?_
  refine kvc (n := 1) (As := [.int 36]) (rest := [.ref q36, .ref h]) (isC := [5]) (isR := [0, 1, 2, 3, 4]) (wr := [(h, .inr (5, [.int 2, .int 0, .int 0, .ref q10, .ref q23, .null, .null])), (q10, .inr (0, [.ref a10])), (a10, .inl (cI, 6, .inl fun _ => 0)), (q23, .inr (0, [.ref a23])), (a23, .inl (cI, 6, .inl fun _ => 0))]) ⟨hx, hb, hml, hown, hts⟩ hP hK hD hS hA hE (k_X0_init l D cI cZ adK adV q36 36 36 (by decide) (by decide) (by decide) (by decide)) (kcI (n := 1) hts (kin_3 _ (List.mem_of_getElem? (i := 0) rfl)) (kin_2 _ (List.mem_of_getElem? (i := 18) rfl)) (kin_2 _ (List.mem_of_getElem? (i := 23) rfl)) (kin_3 _ (List.mem_of_getElem? (i := 18) rfl)) rfl rfl rfl (by decide +kernel) ⟨(Nat.le_of_ble_eq_true rfl), (Nat.le_of_ble_eq_true rfl)⟩) kBl_G kOk_G rfl rfl (by decide) rfl hl.1 rfl (Nat.le_of_ble_eq_true rfl) dX5_init_42 ⟨(Nat.le_of_ble_eq_true rfl), (Nat.le_of_ble_eq_true rfl)⟩ (fun a36 H locs hP hD hS => ?_)
  have hP : va_P D vwCl [(h, .inr (5, [.int 2, .int 0, .int 0, .ref q10, .ref q23, .null, .null])), (q10, .inr (0, [.ref a10])), (a10, .inl (cI, 6, .inl fun _ => 0)), (q23, .inr (0, [.ref a23])), (a23, .inl (cI, 6, .inl fun _ => 0)), (q36, .inr (0, [.ref a36])), (a36, .inl (cI, 36, .inl fun _ => 0))] H := hP
  have hD : va_D A [(h, .inr (5, [.int 2, .int 0, .int 0, .ref q10, .ref q23, .null, .null])), (q10, .inr (0, [.ref a10])), (a10, .inl (cI, 6, .inl fun _ => 0)), (q23, .inr (0, [.ref a23])), (a23, .inl (cI, 6, .inl fun _ => 0)), (q36, .inr (0, [.ref a36])), (a36, .inl (cI, 36, .inl fun _ => 0))] := hD
  refine W.widen (k := 6) (n := 51) (by omega) (by omega) ?_
  refine va_putF (D := D) (ci := 5) (v := .ref q36) (ty := .object "RazorTalk$Row") (C := RX5) (T := TX5) (N := 7) hx hb hts inlX5 tyX5 tyX5_ok nmX5 hown hK hP hD hS 0 rfl rfl 5 (by decide) (kw hts kin_3 16 rfl) (fun _ h9 => h9) rfl hin rfl (by decide +kernel) rfl rfl (Nat.le_of_ble_eq_true rfl) dX5_init_45 (fun H locs hP hD hS => ?_)
  have hP : va_P D vwCl [(h, .inr (5, [.int 2, .int 0, .int 0, .ref q10, .ref q23, .ref q36, .null])), (q10, .inr (0, [.ref a10])), (a10, .inl (cI, 6, .inl fun _ => 0)), (q23, .inr (0, [.ref a23])), (a23, .inl (cI, 6, .inl fun _ => 0)), (q36, .inr (0, [.ref a36])), (a36, .inl (cI, 36, .inl fun _ => 0))] H := hP
  have hD : va_D A [(h, .inr (5, [.int 2, .int 0, .int 0, .ref q10, .ref q23, .ref q36, .null])), (q10, .inr (0, [.ref a10])), (a10, .inl (cI, 6, .inl fun _ => 0)), (q23, .inr (0, [.ref a23])), (a23, .inl (cI, 6, .inl fun _ => 0)), (q36, .inr (0, [.ref a36])), (a36, .inl (cI, 36, .inl fun _ => 0))] := hD
  refine lv_aload_n hx hb dX5_init_48 rfl (lv_at hl 0 rfl) ?_
  refine va_new (ci := 0) (fs := [.null]) (C := RX0) (T := TX0) (N := 1) hx hb hts inlX0 tyX0 tyX0_ok hown (kw hts kin_3 13 rfl) (kw hts kin_2 17 rfl) (kw hts kin_2 18 rfl) hK hP hD hS hA rfl (fun j hj => by rcases (show j = 0 by omega) with rfl <;> rfl) (Nat.le_of_ble_eq_true rfl) (Nat.le_of_ble_eq_true rfl) dX5_init_49 (fun q49 H hP hD hS => ?_)
  have hP : va_P D vwCl [(h, .inr (5, [.int 2, .int 0, .int 0, .ref q10, .ref q23, .ref q36, .null])), (q10, .inr (0, [.ref a10])), (a10, .inl (cI, 6, .inl fun _ => 0)), (q23, .inr (0, [.ref a23])), (a23, .inl (cI, 6, .inl fun _ => 0)), (q36, .inr (0, [.ref a36])), (a36, .inl (cI, 36, .inl fun _ => 0)), (q49, .inr (0, [.null]))] H := hP
  have hD : va_D A [(h, .inr (5, [.int 2, .int 0, .int 0, .ref q10, .ref q23, .ref q36, .null])), (q10, .inr (0, [.ref a10])), (a10, .inl (cI, 6, .inl fun _ => 0)), (q23, .inr (0, [.ref a23])), (a23, .inl (cI, 6, .inl fun _ => 0)), (q36, .inr (0, [.ref a36])), (a36, .inl (cI, 36, .inl fun _ => 0)), (q49, .inr (0, [.null]))] := hD
  refine W.widen (k := 7) (n := 52) (by omega) (by omega) ?_
  refine lv_dup hx hb dX5_init_52 rfl ?_
  refine lv_bipush (v := 8) hx hb dX5_init_53 (by decide) ?_
  refine kvc (n := 1) (As := [.int 8]) (rest := [.ref q49, .ref h]) (isC := [7]) (isR := [0, 1, 2, 3, 4, 5, 6]) (wr := [(h, .inr (5, [.int 2, .int 0, .int 0, .ref q10, .ref q23, .ref q36, .null])), (q10, .inr (0, [.ref a10])), (a10, .inl (cI, 6, .inl fun _ => 0)), (q23, .inr (0, [.ref a23])), (a23, .inl (cI, 6, .inl fun _ => 0)), (q36, .inr (0, [.ref a36])), (a36, .inl (cI, 36, .inl fun _ => 0))]) ⟨hx, hb, hml, hown, hts⟩ hP hK hD hS hA hE (k_X0_init l D cI cZ adK adV q49 8 8 (by decide) (by decide) (by decide) (by decide)) (kcI (n := 1) hts (kin_3 _ (List.mem_of_getElem? (i := 0) rfl)) (kin_2 _ (List.mem_of_getElem? (i := 18) rfl)) (kin_2 _ (List.mem_of_getElem? (i := 23) rfl)) (kin_3 _ (List.mem_of_getElem? (i := 18) rfl)) rfl rfl rfl (by decide +kernel) ⟨(Nat.le_of_ble_eq_true rfl), (Nat.le_of_ble_eq_true rfl)⟩) kBl_G kOk_G rfl rfl (by decide) rfl hl.1 rfl (Nat.le_of_ble_eq_true rfl) dX5_init_55 ⟨(Nat.le_of_ble_eq_true rfl), (Nat.le_of_ble_eq_true rfl)⟩ (fun a49 H locs hP hD hS => ?_)
  have hP : va_P D vwCl [(h, .inr (5, [.int 2, .int 0, .int 0, .ref q10, .ref q23, .ref q36, .null])), (q10, .inr (0, [.ref a10])), (a10, .inl (cI, 6, .inl fun _ => 0)), (q23, .inr (0, [.ref a23])), (a23, .inl (cI, 6, .inl fun _ => 0)), (q36, .inr (0, [.ref a36])), (a36, .inl (cI, 36, .inl fun _ => 0)), (q49, .inr (0, [.ref a49])), (a49, .inl (cI, 8, .inl fun _ => 0))] H := hP
  have hD : va_D A [(h, .inr (5, [.int 2, .int 0, .int 0, .ref q10, .ref q23, .ref q36, .null])), (q10, .inr (0, [.ref a10])), (a10, .inl (cI, 6, .inl fun _ => 0)), (q23, .inr (0, [.ref a23])), (a23, .inl (cI, 6, .inl fun _ => 0)), (q36, .inr (0, [.ref a36])), (a36, .inl (cI, 36, .inl fun _ => 0)), (q49, .inr (0, [.ref a49])), (a49, .inl (cI, 8, .inl fun _ => 0))] := hD
  refine W.widen (k := 8) (n := 60) (by omega) (by omega) ?_
  refine va_putF (D := D) (ci := 5) (v := .ref q49) (ty := .object "RazorTalk$Row") (C := RX5) (T := TX5) (N := 7) hx hb hts inlX5 tyX5 tyX5_ok nmX5 hown hK hP hD hS 0 rfl rfl 6 (by decide) (kw hts kin_3 17 rfl) (fun _ h9 => h9) rfl hin rfl (by decide +kernel) rfl rfl (Nat.le_of_ble_eq_true rfl) dX5_init_58 (fun H locs hP hD hS => ?_)
  have hP : va_P D vwCl [(h, .inr (5, [.int 2, .int 0, .int 0, .ref q10, .ref q23, .ref q36, .ref q49])), (q10, .inr (0, [.ref a10])), (a10, .inl (cI, 6, .inl fun _ => 0)), (q23, .inr (0, [.ref a23])), (a23, .inl (cI, 6, .inl fun _ => 0)), (q36, .inr (0, [.ref a36])), (a36, .inl (cI, 36, .inl fun _ => 0)), (q49, .inr (0, [.ref a49])), (a49, .inl (cI, 8, .inl fun _ => 0))] H := hP
  have hD : va_D A [(h, .inr (5, [.int 2, .int 0, .int 0, .ref q10, .ref q23, .ref q36, .ref q49])), (q10, .inr (0, [.ref a10])), (a10, .inl (cI, 6, .inl fun _ => 0)), (q23, .inr (0, [.ref a23])), (a23, .inl (cI, 6, .inl fun _ => 0)), (q36, .inr (0, [.ref a36])), (a36, .inl (cI, 36, .inl fun _ => 0)), (q49, .inr (0, [.ref a49])), (a49, .inl (cI, 8, .inl fun _ => 0))] := hD
  exact hret (q10, a10, q23, a23, q36, a36, q49, a49) H _ ls 61 hP hD hS dX5_init_61
abbrev rm_X4_init : Room := { frames := 3, cells := 2, slots := 86, locals := 80 }
set_option maxRecDepth 100000 in
set_option maxHeartbeats 4000000 in
theorem k_X4_init (l : Launch) (D : va_G) (cI cZ : ClassId) (adK adV : Nat → Nat) (h : Nat) : CN l D (kTy cI cZ) (kG adK adV) yX4_init (.code yX4_init cX4_init 1 none :: wsL_law) rm_X4_init [.ref h] [(h, .inr (4, [.null]))] (fun t : Nat × Nat => [(h, .inr (4, [.ref t.1])), (t.1, .inr (0, [.ref t.2])), (t.2, .inl (cI, 85, .inl fun _ => 0))]) 2 (86) := by
  refine CN.of (cc := cX4_init) (maxL := 1) (by decide) rfl (Nat.le_of_ble_eq_true rfl) ?_
  intro p e s m args below meth c A Q ls hx hb hml hts0 hown hin hA hP hK hD hE hl hret
  have hts : ∀ w ∈ wsL_law, w.before args s = true := fun w h => hts0 w (List.mem_cons_of_mem _ h)
  clear hts0
  have hown : s.vm.findClass RX4 = some m.cls := hown
  have hl : lv_has ls 1 [(0, .ref h)] := hl
  have hS : va_S A s.heap s.heap [] := va_S.rf
  revert hP hS
  suffices hgo : ∀ (H : Heap) (locs : List Loc), va_P D vwCl [(h, .inr (4, [.null]))] H → va_S A s.heap H locs → W p l e rm_X4_init s m args below meth c H locs 0 0 Q (F0 m 0 ls []) from fun a b => hgo _ _ a b
  intro H locs hP hS
  refine lv_aload_n hx hb dX4_init_0 rfl (lv_at hl 0 rfl) ?_
  refine W.objInit hx hb hown (kw hts kin_3 22 rfl) (kw hts kin_1 10 rfl) (kw hts kin_1 11 rfl) rfl (by rw [hml]; exact hl.1) rfl dX4_init_1 (Nat.le_of_ble_eq_true rfl) (Nat.le_of_ble_eq_true rfl) ?_
  refine W.eq (g2 := F0 m 4 ls []) rfl ?_
  refine lv_aload_n hx hb dX4_init_4 rfl (lv_at hl 0 rfl) ?_
  refine va_new (ci := 0) (fs := [.null]) (C := RX0) (T := TX0) (N := 1) hx hb hts inlX0 tyX0 tyX0_ok hown (kw hts kin_3 23 rfl) (kw hts kin_2 17 rfl) (kw hts kin_2 18 rfl) hK hP hD hS hA rfl (fun j hj => by rcases (show j = 0 by omega) with rfl <;> rfl) (Nat.le_of_ble_eq_true rfl) (Nat.le_of_ble_eq_true rfl) dX4_init_5 (fun q5 H hP hD hS => ?_)
  have hP : va_P D vwCl [(h, .inr (4, [.null])), (q5, .inr (0, [.null]))] H := hP
  have hD : va_D A [(h, .inr (4, [.null])), (q5, .inr (0, [.null]))] := hD
  refine W.widen (k := 1) (n := 1) (by omega) (by omega) ?_
  refine lv_dup hx hb dX4_init_8 rfl ?_
  refine lv_bipush (v := 85) hx hb dX4_init_9 (by decide) ?_
  refine kvc (n := 1) (As := [.int 85]) (rest := [.ref q5, .ref h]) (isC := [1]) (isR := [0]) (wr := [(h, .inr (4, [.null]))]) ⟨hx, hb, hml, hown, hts⟩ hP hK hD hS hA hE (k_X0_init l D cI cZ adK adV q5 85 85 (by decide) (by decide) (by decide) (by decide)) (kcI (n := 1) hts (kin_3 _ (List.mem_of_getElem? (i := 0) rfl)) (kin_2 _ (List.mem_of_getElem? (i := 18) rfl)) (kin_2 _ (List.mem_of_getElem? (i := 23) rfl)) (kin_4 _ (List.mem_of_getElem? (i := 1) rfl)) rfl rfl rfl (by decide +kernel) ⟨(Nat.le_of_ble_eq_true rfl), (Nat.le_of_ble_eq_true rfl)⟩) kBl_G kOk_G rfl rfl (by decide) rfl hl.1 rfl (Nat.le_of_ble_eq_true rfl) dX4_init_11 ⟨(Nat.le_of_ble_eq_true rfl), (Nat.le_of_ble_eq_true rfl)⟩ (fun a5 H locs hP hD hS => ?_)
  have hP : va_P D vwCl [(h, .inr (4, [.null])), (q5, .inr (0, [.ref a5])), (a5, .inl (cI, 85, .inl fun _ => 0))] H := hP
  have hD : va_D A [(h, .inr (4, [.null])), (q5, .inr (0, [.ref a5])), (a5, .inl (cI, 85, .inl fun _ => 0))] := hD
  refine W.widen (k := 2) (n := 86) (by omega) (by omega) ?_
  refine va_putF (D := D) (ci := 4) (v := .ref q5) (ty := .object "RazorTalk$Row") (C := RX4) (T := TX4) (N := 1) hx hb hts inlX4 tyX4 tyX4_ok nmX4 hown hK hP hD hS 0 rfl rfl 0 (by decide) (kw hts kin_4 0 rfl) (fun _ h9 => h9) rfl hin rfl (by decide +kernel) rfl rfl (Nat.le_of_ble_eq_true rfl) dX4_init_14 (fun H locs hP hD hS => ?_)
  have hP : va_P D vwCl [(h, .inr (4, [.ref q5])), (q5, .inr (0, [.ref a5])), (a5, .inl (cI, 85, .inl fun _ => 0))] H := hP
  have hD : va_D A [(h, .inr (4, [.ref q5])), (q5, .inr (0, [.ref a5])), (a5, .inl (cI, 85, .inl fun _ => 0))] := hD
  exact hret (q5, a5) H _ ls 17 hP hD hS dX4_init_17
abbrev rm_X3_init : Room := { frames := 3, cells := 6, slots := 21, locals := 80 }
set_option maxRecDepth 100000 in
set_option maxHeartbeats 4000000 in
theorem k_X3_init (l : Launch) (D : va_G) (cI cZ : ClassId) (adK adV : Nat → Nat) (h : Nat) : CN l D (kTy cI cZ) (kG adK adV) yX3_init (.code yX3_init cX3_init 1 none :: wsL_law) rm_X3_init [.ref h] [(h, .inr (3, [.int 0, .null, .null, .null]))] (fun t : Nat × Nat × Nat × Nat × Nat × Nat => [(h, .inr (3, [.int 0, .ref t.1, .ref t.2.2.1, .ref t.2.2.2.2.1])), (t.1, .inr (0, [.ref t.2.1])), (t.2.1, .inl (cI, 6, .inl fun _ => 0)), (t.2.2.1, .inr (0, [.ref t.2.2.2.1])), (t.2.2.2.1, .inl (cI, 6, .inl fun _ => 0)), (t.2.2.2.2.1, .inr (0, [.ref t.2.2.2.2.2])), (t.2.2.2.2.2, .inl (cI, 6, .inl fun _ => 0))]) 6 (21) := by
  refine CN.of (cc := cX3_init) (maxL := 1) (by decide) rfl (Nat.le_of_ble_eq_true rfl) ?_
  intro p e s m args below meth c A Q ls hx hb hml hts0 hown hin hA hP hK hD hE hl hret
  have hts : ∀ w ∈ wsL_law, w.before args s = true := fun w h => hts0 w (List.mem_cons_of_mem _ h)
  clear hts0
  have hown : s.vm.findClass RX3 = some m.cls := hown
  have hl : lv_has ls 1 [(0, .ref h)] := hl
  have hS : va_S A s.heap s.heap [] := va_S.rf
  revert hP hS
  suffices hgo : ∀ (H : Heap) (locs : List Loc), va_P D vwCl [(h, .inr (3, [.int 0, .null, .null, .null]))] H → va_S A s.heap H locs → W p l e rm_X3_init s m args below meth c H locs 0 0 Q (F0 m 0 ls []) from fun a b => hgo _ _ a b
  intro H locs hP hS
  refine lv_aload_n hx hb dX3_init_0 rfl (lv_at hl 0 rfl) ?_
  refine W.objInit hx hb hown (kw hts kin_4 5 rfl) (kw hts kin_1 10 rfl) (kw hts kin_1 11 rfl) rfl (by rw [hml]; exact hl.1) rfl dX3_init_1 (Nat.le_of_ble_eq_true rfl) (Nat.le_of_ble_eq_true rfl) ?_
  refine W.eq (g2 := F0 m 4 ls []) rfl ?_
  refine lv_aload_n hx hb dX3_init_4 rfl (lv_at hl 0 rfl) ?_
  refine va_new (ci := 0) (fs := [.null]) (C := RX0) (T := TX0) (N := 1) hx hb hts inlX0 tyX0 tyX0_ok hown (kw hts kin_4 6 rfl) (kw hts kin_2 17 rfl) (kw hts kin_2 18 rfl) hK hP hD hS hA rfl (fun j hj => by rcases (show j = 0 by omega) with rfl <;> rfl) (Nat.le_of_ble_eq_true rfl) (Nat.le_of_ble_eq_true rfl) dX3_init_5 (fun q5 H hP hD hS => ?_)
  have hP : va_P D vwCl [(h, .inr (3, [.int 0, .null, .null, .null])), (q5, .inr (0, [.null]))] H := hP
  have hD : va_D A [(h, .inr (3, [.int 0, .null, .null, .null])), (q5, .inr (0, [.null]))] := hD
  refine W.widen (k := 1) (n := 1) (by omega) (by omega) ?_
  refine lv_dup hx hb dX3_init_8 rfl ?_
  refine lv_bipush (v := 6) hx hb dX3_init_9 (by decide) ?_
  refine kvc (n := 1) (As := [.int 6]) (rest := [.ref q5, .ref h]) (isC := [1]) (isR := [0]) (wr := [(h, .inr (3, [.int 0, .null, .null, .null]))]) ⟨hx, hb, hml, hown, hts⟩ hP hK hD hS hA hE (k_X0_init l D cI cZ adK adV q5 6 6 (by decide) (by decide) (by decide) (by decide)) (kcI (n := 1) hts (kin_3 _ (List.mem_of_getElem? (i := 0) rfl)) (kin_2 _ (List.mem_of_getElem? (i := 18) rfl)) (kin_2 _ (List.mem_of_getElem? (i := 23) rfl)) (kin_4 _ (List.mem_of_getElem? (i := 10) rfl)) rfl rfl rfl (by decide +kernel) ⟨(Nat.le_of_ble_eq_true rfl), (Nat.le_of_ble_eq_true rfl)⟩) kBl_G kOk_G rfl rfl (by decide) rfl hl.1 rfl (Nat.le_of_ble_eq_true rfl) dX3_init_11 ⟨(Nat.le_of_ble_eq_true rfl), (Nat.le_of_ble_eq_true rfl)⟩ (fun a5 H locs hP hD hS => ?_)
  have hP : va_P D vwCl [(h, .inr (3, [.int 0, .null, .null, .null])), (q5, .inr (0, [.ref a5])), (a5, .inl (cI, 6, .inl fun _ => 0))] H := hP
  have hD : va_D A [(h, .inr (3, [.int 0, .null, .null, .null])), (q5, .inr (0, [.ref a5])), (a5, .inl (cI, 6, .inl fun _ => 0))] := hD
  refine W.widen (k := 2) (n := 7) (by omega) (by omega) ?_
  refine va_putF (D := D) (ci := 3) (v := .ref q5) (ty := .object "RazorTalk$Row") (C := RX3) (T := TX3) (N := 4) hx hb hts inlX3 tyX3 tyX3_ok nmX3 hown hK hP hD hS 0 rfl rfl 1 (by decide) (kw hts kin_4 7 rfl) (fun _ h9 => h9) rfl hin rfl (by decide +kernel) rfl rfl (Nat.le_of_ble_eq_true rfl) dX3_init_14 (fun H locs hP hD hS => ?_)
  have hP : va_P D vwCl [(h, .inr (3, [.int 0, .ref q5, .null, .null])), (q5, .inr (0, [.ref a5])), (a5, .inl (cI, 6, .inl fun _ => 0))] H := hP
  have hD : va_D A [(h, .inr (3, [.int 0, .ref q5, .null, .null])), (q5, .inr (0, [.ref a5])), (a5, .inl (cI, 6, .inl fun _ => 0))] := hD
  refine lv_aload_n hx hb dX3_init_17 rfl (lv_at hl 0 rfl) ?_
  refine va_new (ci := 0) (fs := [.null]) (C := RX0) (T := TX0) (N := 1) hx hb hts inlX0 tyX0 tyX0_ok hown (kw hts kin_4 6 rfl) (kw hts kin_2 17 rfl) (kw hts kin_2 18 rfl) hK hP hD hS hA rfl (fun j hj => by rcases (show j = 0 by omega) with rfl <;> rfl) (Nat.le_of_ble_eq_true rfl) (Nat.le_of_ble_eq_true rfl) dX3_init_18 (fun q18 H hP hD hS => ?_)
  have hP : va_P D vwCl [(h, .inr (3, [.int 0, .ref q5, .null, .null])), (q5, .inr (0, [.ref a5])), (a5, .inl (cI, 6, .inl fun _ => 0)), (q18, .inr (0, [.null]))] H := hP
  have hD : va_D A [(h, .inr (3, [.int 0, .ref q5, .null, .null])), (q5, .inr (0, [.ref a5])), (a5, .inl (cI, 6, .inl fun _ => 0)), (q18, .inr (0, [.null]))] := hD
  refine W.widen (k := 3) (n := 8) (by omega) (by omega) ?_
  refine lv_dup hx hb dX3_init_21 rfl ?_
  refine lv_bipush (v := 6) hx hb dX3_init_22 (by decide) ?_
  refine kvc (n := 1) (As := [.int 6]) (rest := [.ref q18, .ref h]) (isC := [3]) (isR := [0, 1, 2]) (wr := [(h, .inr (3, [.int 0, .ref q5, .null, .null])), (q5, .inr (0, [.ref a5])), (a5, .inl (cI, 6, .inl fun _ => 0))]) ⟨hx, hb, hml, hown, hts⟩ hP hK hD hS hA hE (k_X0_init l D cI cZ adK adV q18 6 6 (by decide) (by decide) (by decide) (by decide)) (kcI (n := 1) hts (kin_3 _ (List.mem_of_getElem? (i := 0) rfl)) (kin_2 _ (List.mem_of_getElem? (i := 18) rfl)) (kin_2 _ (List.mem_of_getElem? (i := 23) rfl)) (kin_4 _ (List.mem_of_getElem? (i := 10) rfl)) rfl rfl rfl (by decide +kernel) ⟨(Nat.le_of_ble_eq_true rfl), (Nat.le_of_ble_eq_true rfl)⟩) kBl_G kOk_G rfl rfl (by decide) rfl hl.1 rfl (Nat.le_of_ble_eq_true rfl) dX3_init_24 ⟨(Nat.le_of_ble_eq_true rfl), (Nat.le_of_ble_eq_true rfl)⟩ (fun a18 H locs hP hD hS => ?_)
  have hP : va_P D vwCl [(h, .inr (3, [.int 0, .ref q5, .null, .null])), (q5, .inr (0, [.ref a5])), (a5, .inl (cI, 6, .inl fun _ => 0)), (q18, .inr (0, [.ref a18])), (a18, .inl (cI, 6, .inl fun _ => 0))] H := hP
  have hD : va_D A [(h, .inr (3, [.int 0, .ref q5, .null, .null])), (q5, .inr (0, [.ref a5])), (a5, .inl (cI, 6, .inl fun _ => 0)), (q18, .inr (0, [.ref a18])), (a18, .inl (cI, 6, .inl fun _ => 0))] := hD
  refine W.widen (k := 4) (n := 14) (by omega) (by omega) ?_
  refine va_putF (D := D) (ci := 3) (v := .ref q18) (ty := .object "RazorTalk$Row") (C := RX3) (T := TX3) (N := 4) hx hb hts inlX3 tyX3 tyX3_ok nmX3 hown hK hP hD hS 0 rfl rfl 2 (by decide) (kw hts kin_4 8 rfl) (fun _ h9 => h9) rfl hin rfl (by decide +kernel) rfl rfl (Nat.le_of_ble_eq_true rfl) dX3_init_27 (fun H locs hP hD hS => ?_)
  have hP : va_P D vwCl [(h, .inr (3, [.int 0, .ref q5, .ref q18, .null])), (q5, .inr (0, [.ref a5])), (a5, .inl (cI, 6, .inl fun _ => 0)), (q18, .inr (0, [.ref a18])), (a18, .inl (cI, 6, .inl fun _ => 0))] H := hP
  have hD : va_D A [(h, .inr (3, [.int 0, .ref q5, .ref q18, .null])), (q5, .inr (0, [.ref a5])), (a5, .inl (cI, 6, .inl fun _ => 0)), (q18, .inr (0, [.ref a18])), (a18, .inl (cI, 6, .inl fun _ => 0))] := hD
  refine lv_aload_n hx hb dX3_init_30 rfl (lv_at hl 0 rfl) ?_
  refine va_new (ci := 0) (fs := [.null]) (C := RX0) (T := TX0) (N := 1) hx hb hts inlX0 tyX0 tyX0_ok hown (kw hts kin_4 6 rfl) (kw hts kin_2 17 rfl) (kw hts kin_2 18 rfl) hK hP hD hS hA rfl (fun j hj => by rcases (show j = 0 by omega) with rfl <;> rfl) (Nat.le_of_ble_eq_true rfl) (Nat.le_of_ble_eq_true rfl) dX3_init_31 (fun q31 H hP hD hS => ?_)
  have hP : va_P D vwCl [(h, .inr (3, [.int 0, .ref q5, .ref q18, .null])), (q5, .inr (0, [.ref a5])), (a5, .inl (cI, 6, .inl fun _ => 0)), (q18, .inr (0, [.ref a18])), (a18, .inl (cI, 6, .inl fun _ => 0)), (q31, .inr (0, [.null]))] H := hP
  have hD : va_D A [(h, .inr (3, [.int 0, .ref q5, .ref q18, .null])), (q5, .inr (0, [.ref a5])), (a5, .inl (cI, 6, .inl fun _ => 0)), (q18, .inr (0, [.ref a18])), (a18, .inl (cI, 6, .inl fun _ => 0)), (q31, .inr (0, [.null]))] := hD
  refine W.widen (k := 5) (n := 15) (by omega) (by omega) ?_
  refine lv_dup hx hb dX3_init_34 rfl ?_
  refine lv_bipush (v := 6) hx hb dX3_init_35 (by decide) ?_
  refine kvc (n := 1) (As := [.int 6]) (rest := [.ref q31, .ref h]) (isC := [5]) (isR := [0, 1, 2, 3, 4]) (wr := [(h, .inr (3, [.int 0, .ref q5, .ref q18, .null])), (q5, .inr (0, [.ref a5])), (a5, .inl (cI, 6, .inl fun _ => 0)), (q18, .inr (0, [.ref a18])), (a18, .inl (cI, 6, .inl fun _ => 0))]) ⟨hx, hb, hml, hown, hts⟩ hP hK hD hS hA hE (k_X0_init l D cI cZ adK adV q31 6 6 (by decide) (by decide) (by decide) (by decide)) (kcI (n := 1) hts (kin_3 _ (List.mem_of_getElem? (i := 0) rfl)) (kin_2 _ (List.mem_of_getElem? (i := 18) rfl)) (kin_2 _ (List.mem_of_getElem? (i := 23) rfl)) (kin_4 _ (List.mem_of_getElem? (i := 10) rfl)) rfl rfl rfl (by decide +kernel) ⟨(Nat.le_of_ble_eq_true rfl), (Nat.le_of_ble_eq_true rfl)⟩) kBl_G kOk_G rfl rfl (by decide) rfl hl.1 rfl (Nat.le_of_ble_eq_true rfl) dX3_init_37 ⟨(Nat.le_of_ble_eq_true rfl), (Nat.le_of_ble_eq_true rfl)⟩ (fun a31 H locs hP hD hS => ?_)
  have hP : va_P D vwCl [(h, .inr (3, [.int 0, .ref q5, .ref q18, .null])), (q5, .inr (0, [.ref a5])), (a5, .inl (cI, 6, .inl fun _ => 0)), (q18, .inr (0, [.ref a18])), (a18, .inl (cI, 6, .inl fun _ => 0)), (q31, .inr (0, [.ref a31])), (a31, .inl (cI, 6, .inl fun _ => 0))] H := hP
  have hD : va_D A [(h, .inr (3, [.int 0, .ref q5, .ref q18, .null])), (q5, .inr (0, [.ref a5])), (a5, .inl (cI, 6, .inl fun _ => 0)), (q18, .inr (0, [.ref a18])), (a18, .inl (cI, 6, .inl fun _ => 0)), (q31, .inr (0, [.ref a31])), (a31, .inl (cI, 6, .inl fun _ => 0))] := hD
  refine W.widen (k := 6) (n := 21) (by omega) (by omega) ?_
  refine va_putF (D := D) (ci := 3) (v := .ref q31) (ty := .object "RazorTalk$Row") (C := RX3) (T := TX3) (N := 4) hx hb hts inlX3 tyX3 tyX3_ok nmX3 hown hK hP hD hS 0 rfl rfl 3 (by decide) (kw hts kin_4 9 rfl) (fun _ h9 => h9) rfl hin rfl (by decide +kernel) rfl rfl (Nat.le_of_ble_eq_true rfl) dX3_init_40 (fun H locs hP hD hS => ?_)
  have hP : va_P D vwCl [(h, .inr (3, [.int 0, .ref q5, .ref q18, .ref q31])), (q5, .inr (0, [.ref a5])), (a5, .inl (cI, 6, .inl fun _ => 0)), (q18, .inr (0, [.ref a18])), (a18, .inl (cI, 6, .inl fun _ => 0)), (q31, .inr (0, [.ref a31])), (a31, .inl (cI, 6, .inl fun _ => 0))] H := hP
  have hD : va_D A [(h, .inr (3, [.int 0, .ref q5, .ref q18, .ref q31])), (q5, .inr (0, [.ref a5])), (a5, .inl (cI, 6, .inl fun _ => 0)), (q18, .inr (0, [.ref a18])), (a18, .inl (cI, 6, .inl fun _ => 0)), (q31, .inr (0, [.ref a31])), (a31, .inl (cI, 6, .inl fun _ => 0))] := hD
  exact hret (q5, a5, q18, a18, q31, a31) H _ ls 43 hP hD hS dX3_init_43
abbrev rm_X2_init (n : Nat) : Room := { frames := 3, cells := 2, slots := 1 + n, locals := 80 }
set_option maxRecDepth 100000 in
set_option maxHeartbeats 4000000 in
theorem k_X2_init (l : Launch) (D : va_G) (cI cZ : ClassId) (adK adV : Nat → Nat) (h : Nat) (n : Nat) (x : Int32) (h0 : ¬ x * 85 < 0) (hm : (if 0 < x * 85 then x * 85 else 0) = x * 85) (hn : (x * 85).toNatClampNeg = n) (hb4 : n * componentBytes .int ≤ 536870912) : CN l D (kTy cI cZ) (kG adK adV) yX2_init (.code yX2_init cX2_init 2 none :: wsL_law) (rm_X2_init n) [.ref h, .int x] [(h, .inr (2, [.null]))] (fun t : Nat × Nat => [(h, .inr (2, [.ref t.1])), (t.1, .inr (0, [.ref t.2])), (t.2, .inl (cI, n, .inl fun _ => 0))]) 2 (1 + n) := by
  refine CN.of (cc := cX2_init) (maxL := 2) (by decide) rfl (Nat.le_of_ble_eq_true rfl) ?_
  intro p e s m args below meth c A Q ls hx hb hml hts0 hown hin hA hP hK hD hE hl hret
  have hts : ∀ w ∈ wsL_law, w.before args s = true := fun w h => hts0 w (List.mem_cons_of_mem _ h)
  clear hts0
  have hown : s.vm.findClass RX2 = some m.cls := hown
  have hl : lv_has ls 2 [(0, .ref h), (1, .int x)] := hl
  have hS : va_S A s.heap s.heap [] := va_S.rf
  revert hP hS
  suffices hgo : ∀ (H : Heap) (locs : List Loc), va_P D vwCl [(h, .inr (2, [.null]))] H → va_S A s.heap H locs → W p l e (rm_X2_init n) s m args below meth c H locs 0 0 Q (F0 m 0 ls []) from fun a b => hgo _ _ a b
  intro H locs hP hS
  refine lv_aload_n hx hb dX2_init_0 rfl (lv_at hl 0 rfl) ?_
  refine W.objInit hx hb hown (kw hts kin_4 14 rfl) (kw hts kin_1 10 rfl) (kw hts kin_1 11 rfl) rfl (by rw [hml]; exact hl.1) rfl dX2_init_1 (Nat.le_of_ble_eq_true rfl) (Nat.le_of_ble_eq_true rfl) ?_
  refine W.eq (g2 := F0 m 4 ls []) rfl ?_
  refine lv_aload_n hx hb dX2_init_4 rfl (lv_at hl 0 rfl) ?_
  refine va_new (ci := 0) (fs := [.null]) (C := RX0) (T := TX0) (N := 1) hx hb hts inlX0 tyX0 tyX0_ok hown (kw hts kin_4 15 rfl) (kw hts kin_2 17 rfl) (kw hts kin_2 18 rfl) hK hP hD hS hA rfl (fun j hj => by rcases (show j = 0 by omega) with rfl <;> rfl) (Nat.le_of_ble_eq_true rfl) (by show _ ≤ 1 + n; omega) dX2_init_5 (fun q5 H hP hD hS => ?_)
  have hP : va_P D vwCl [(h, .inr (2, [.null])), (q5, .inr (0, [.null]))] H := hP
  have hD : va_D A [(h, .inr (2, [.null])), (q5, .inr (0, [.null]))] := hD
  refine W.widen (k := 1) (n := 1) (by omega) (by omega) ?_
  refine lv_dup hx hb dX2_init_8 rfl ?_
  refine lv_iload_n hx hb dX2_init_9 rfl (lv_at hl 1 rfl) ?_
  refine lv_bipush (v := 85) hx hb dX2_init_10 (by decide) ?_
  refine lv_imul hx hb dX2_init_12 ?_
  refine kvc (n := 1) (As := [.int (x * 85)]) (rest := [.ref q5, .ref h]) (isC := [1]) (isR := [0]) (wr := [(h, .inr (2, [.null]))]) ⟨hx, hb, hml, hown, hts⟩ hP hK hD hS hA hE (k_X0_init l D cI cZ adK adV q5 n (x * 85) h0 hm hn hb4) (kcI (n := 1) hts (kin_3 _ (List.mem_of_getElem? (i := 0) rfl)) (kin_2 _ (List.mem_of_getElem? (i := 18) rfl)) (kin_2 _ (List.mem_of_getElem? (i := 23) rfl)) (kin_4 _ (List.mem_of_getElem? (i := 17) rfl)) rfl rfl rfl (by decide +kernel) ⟨(Nat.le_of_ble_eq_true rfl), (Nat.le_of_ble_eq_true rfl)⟩) kBl_G kOk_G rfl rfl (by decide) rfl hl.1 rfl (Nat.le_of_ble_eq_true rfl) dX2_init_13 ⟨(Nat.le_of_ble_eq_true rfl), (by show _ ≤ 1 + n; omega)⟩ (fun a5 H locs hP hD hS => ?_)
  have hP : va_P D vwCl [(h, .inr (2, [.null])), (q5, .inr (0, [.ref a5])), (a5, .inl (cI, n, .inl fun _ => 0))] H := hP
  have hD : va_D A [(h, .inr (2, [.null])), (q5, .inr (0, [.ref a5])), (a5, .inl (cI, n, .inl fun _ => 0))] := hD
  refine W.widen (k := 2) (n := 1 + n) (by omega) (by omega) ?_
  refine va_putF (D := D) (ci := 2) (v := .ref q5) (ty := .object "RazorTalk$Row") (C := RX2) (T := TX2) (N := 1) hx hb hts inlX2 tyX2 tyX2_ok nmX2 hown hK hP hD hS 0 rfl rfl 0 (by decide) (kw hts kin_4 16 rfl) (fun _ h9 => h9) rfl hin rfl (by decide +kernel) rfl rfl (Nat.le_of_ble_eq_true rfl) dX2_init_16 (fun H locs hP hD hS => ?_)
  have hP : va_P D vwCl [(h, .inr (2, [.ref q5])), (q5, .inr (0, [.ref a5])), (a5, .inl (cI, n, .inl fun _ => 0))] H := hP
  have hD : va_D A [(h, .inr (2, [.ref q5])), (q5, .inr (0, [.ref a5])), (a5, .inl (cI, n, .inl fun _ => 0))] := hD
  exact hret (q5, a5) H _ ls 19 hP hD hS dX2_init_19
