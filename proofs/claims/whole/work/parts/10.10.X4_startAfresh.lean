def nx_X4_startAfresh_19 (brd : Nat → Int32) (i : Nat) (i1 : Nat) (y19_std : Nat → Int32) : (Nat → Int32) := (f_X4_setBeard y19_std (nI i) (nI i1) (f_X5_toldBeard brd (nI i) (nI i1)))
def x_X4_startAfresh_19 (brd : Nat → Int32) (i : Nat) (y9_std : Nat → Int32) : (Nat → Int32) := lp (fun iz z => nx_X4_startAfresh_19 brd i iz z) y9_std 6
def nx_X4_startAfresh_9 (brd : Nat → Int32) (i : Nat) (y9_std : Nat → Int32) : (Nat → Int32) := (x_X4_startAfresh_19 brd i y9_std)
def x_X4_startAfresh_9 (std : Nat → Int32) (tp : Int32) (brd : Nat → Int32) : (Nat → Int32) := lp (fun iz z => nx_X4_startAfresh_9 brd iz z) (f_X0_zero 85 std) tp.toNatClampNeg
def f_X4_startAfresh (std : Nat → Int32) (tp : Int32) (brd : Nat → Int32) : (Nat → Int32) := (x_X4_startAfresh_9 std tp brd)
abbrev rm_X4_startAfresh : Room := { frames := 2, cells := 0, slots := 0, locals := 45 }
set_option maxRecDepth 100000 in
theorem cut_stdtown_row_1_2 (cI : ClassId) (q : Nat → Nat) (std : Nat → Int32) (tb : Int32) (tp : Int32) (tr : Int32) (knd : Nat → Int32) (sec : Nat → Int32) (brd : Nat → Int32) (rms : Nat → Int32) (n_f : Nat → Int32) : kCut (wStd cI q std ++ wTown cI q tb tp tr knd sec brd rms) (wR cI (q 18) (q 19) 85 std) (wR cI (q 18) (q 19) 85 n_f) (wStd cI q n_f ++ wTown cI q tb tp tr knd sec brd rms) [((q 17), .inr (4, [.ref (q 18)])), ((q 8), .inr (5, [.int tb, .int tp, .int tr, .ref (q 9), .ref (q 11), .ref (q 13), .ref (q 15)])), ((q 9), .inr (0, [.ref (q 10)])), ((q 10), .inl (cI, 6, .inl knd)), ((q 11), .inr (0, [.ref (q 12)])), ((q 12), .inl (cI, 6, .inl sec)), ((q 13), .inr (0, [.ref (q 14)])), ((q 14), .inl (cI, 36, .inl brd)), ((q 15), .inr (0, [.ref (q 16)])), ((q 16), .inl (cI, 8, .inl rms))] [1, 2] [0, 3, 4, 5, 6, 7, 8, 9, 10, 11] [0, 10, 11, 1, 2, 3, 4, 5, 6, 7, 8, 9] [q 18, q 19] ∧ kNd [1, 2] [0, 3, 4, 5, 6, 7, 8, 9, 10, 11] [0, 10, 11, 1, 2, 3, 4, 5, 6, 7, 8, 9] = true := ⟨⟨rfl, rfl, ⟨rfl, rfl⟩, rfl⟩, by decide +kernel⟩
set_option maxRecDepth 100000 in
theorem cut_stdtown_town (cI : ClassId) (q : Nat → Nat) (std : Nat → Int32) (tb : Int32) (tp : Int32) (tr : Int32) (knd : Nat → Int32) (sec : Nat → Int32) (brd : Nat → Int32) (rms : Nat → Int32) (n_tb : Int32) (n_tp : Int32) (n_tr : Int32) (n_knd : Nat → Int32) (n_sec : Nat → Int32) (n_brd : Nat → Int32) (n_rms : Nat → Int32) : kCut (wStd cI q std ++ wTown cI q tb tp tr knd sec brd rms) (wTown cI q tb tp tr knd sec brd rms) (wTown cI q n_tb n_tp n_tr n_knd n_sec n_brd n_rms) (wStd cI q std ++ wTown cI q n_tb n_tp n_tr n_knd n_sec n_brd n_rms) [((q 17), .inr (4, [.ref (q 18)])), ((q 18), .inr (0, [.ref (q 19)])), ((q 19), .inl (cI, 85, .inl std))] [3, 4, 5, 6, 7, 8, 9, 10, 11] [0, 1, 2] [0, 1, 2, 3, 4, 5, 6, 7, 8, 9, 10, 11] [q 8, q 9, q 10, q 11, q 12, q 13, q 14, q 15, q 16] ∧ kNd [3, 4, 5, 6, 7, 8, 9, 10, 11] [0, 1, 2] [0, 1, 2, 3, 4, 5, 6, 7, 8, 9, 10, 11] = true := ⟨⟨rfl, rfl, ⟨rfl, rfl⟩, rfl⟩, by decide +kernel⟩
set_option maxRecDepth 100000 in
theorem cut_stdtown_std (cI : ClassId) (q : Nat → Nat) (std : Nat → Int32) (tb : Int32) (tp : Int32) (tr : Int32) (knd : Nat → Int32) (sec : Nat → Int32) (brd : Nat → Int32) (rms : Nat → Int32) (n_std : Nat → Int32) : kCut (wStd cI q std ++ wTown cI q tb tp tr knd sec brd rms) (wStd cI q std) (wStd cI q n_std) (wStd cI q n_std ++ wTown cI q tb tp tr knd sec brd rms) [((q 8), .inr (5, [.int tb, .int tp, .int tr, .ref (q 9), .ref (q 11), .ref (q 13), .ref (q 15)])), ((q 9), .inr (0, [.ref (q 10)])), ((q 10), .inl (cI, 6, .inl knd)), ((q 11), .inr (0, [.ref (q 12)])), ((q 12), .inl (cI, 6, .inl sec)), ((q 13), .inr (0, [.ref (q 14)])), ((q 14), .inl (cI, 36, .inl brd)), ((q 15), .inr (0, [.ref (q 16)])), ((q 16), .inl (cI, 8, .inl rms))] [0, 1, 2] [3, 4, 5, 6, 7, 8, 9, 10, 11] [9, 10, 11, 0, 1, 2, 3, 4, 5, 6, 7, 8] [q 17, q 18, q 19] ∧ kNd [0, 1, 2] [3, 4, 5, 6, 7, 8, 9, 10, 11] [9, 10, 11, 0, 1, 2, 3, 4, 5, 6, 7, 8] = true := ⟨⟨rfl, rfl, ⟨rfl, rfl⟩, rfl⟩, by decide +kernel⟩
set_option maxRecDepth 100000 in
set_option maxHeartbeats 4000000 in
theorem k_X4_startAfresh (l : Launch) (D : va_G) (cI cZ : ClassId) (adK adV : Nat → Nat) (q : Nat → Nat) (std : Nat → Int32) (tb : Int32) (tp : Int32) (tr : Int32) (knd : Nat → Int32) (sec : Nat → Int32) (brd : Nat → Int32) (rms : Nat → Int32) : CV l D (kTy cI cZ) (kG adK adV) yX4_startAfresh (.code yX4_startAfresh cX4_startAfresh 4 none :: wsL_law) rm_X4_startAfresh [.ref (q 17), .ref (q 8)] (wStd cI q std ++ wTown cI q tb tp tr knd sec brd rms) (wStd cI q (f_X4_startAfresh std tp brd) ++ wTown cI q tb tp tr knd sec brd rms) := by
  refine CV.of (cc := cX4_startAfresh) (maxL := 4) (by decide) rfl (Nat.le_of_ble_eq_true rfl) ?_
  intro p e s m args below meth c A Q ls hx hb hml hts0 hown hA hP hK hD hE hl hret
  have hts : ∀ w ∈ wsL_law, w.before args s = true := fun w h => hts0 w (List.mem_cons_of_mem _ h)
  clear hts0
  have hown : s.vm.findClass RX4 = some m.cls := hown
  have hl : lv_has ls 4 [(0, .ref (q 17)), (1, .ref (q 8))] := hl
  have hS : va_S A s.heap s.heap [] := va_S.rf
  revert hP hS
  suffices hgo : ∀ (H : Heap) (locs : List Loc), va_P D vwCl (wStd cI q std ++ wTown cI q tb tp tr knd sec brd rms) H → va_S A s.heap H locs → W p l e rm_X4_startAfresh s m args below meth c H locs 0 0 Q (F0 m 0 ls []) from fun a b => hgo _ _ a b
  intro H locs hP hS
  refine lv_aload_n hx hb dX4_startAfresh_0 rfl (lv_at hl 0 rfl) ?_
  refine va_get (D := D) (ci := 4) (v := .ref (q 18)) (C := RX4) (T := TX4) (N := 1) hx hb hts inlX4 hown hK hP 0 rfl rfl 0 (by decide) (kw hts kin_4 0 rfl) (fun _ h9 => h9) rfl dX4_startAfresh_1 ?_
  refine kvv (As := []) (rest := []) (q0 := 0) (ci := 0) ⟨hx, hb, hml, hown, hts⟩ hP hK hD hS hA hE (k_X0_zero l D cI cZ adK adV (q 18) (q 19) 85 std (by decide)) (kcv hts kM_X0_zero (kin_15 _ (List.mem_of_getElem? (i := 23) rfl)) ⟨rfl, rfl⟩ ⟨Nat.le_of_ble_eq_true rfl, Nat.le_of_ble_eq_true rfl⟩) kBl_G kOk_G (wStd cI q (f_X0_zero 85 std) ++ wTown cI q tb tp tr knd sec brd rms) (cut_stdtown_row_1_2 cI q std tb tp tr knd sec brd rms (f_X0_zero 85 std)).1 (cut_stdtown_row_1_2 cI q std tb tp tr knd sec brd rms (f_X0_zero 85 std)).2 rfl rfl rfl rfl hl.1 rfl (Nat.le_of_ble_eq_true rfl) dX4_startAfresh_4 (fun H locs hP hD hS => ?_)
  refine lv_iconst (v := 0) hx hb dX4_startAfresh_7 (by decide) ?_
  refine lv_istore_n (lv' := [(2, .int 0), (0, .ref (q 17)), (1, .ref (q 8))]) hx hb dX4_startAfresh_8 rfl hl (by decide) rfl (fun ls hl => ?_)
  have lp9 : ∀ (k9 i : Nat) (y9_std : Nat → Int32), i + k9 = tp.toNatClampNeg → y9_std = lp (fun iz z => nx_X4_startAfresh_9 brd iz z) (f_X0_zero 85 std) i → ∀ (H : Heap) (locs : List Loc) (ls : Array Slot), va_P D vwCl (wStd cI q y9_std ++ wTown cI q tb tp tr knd sec brd rms) H → va_D A (wStd cI q y9_std ++ wTown cI q tb tp tr knd sec brd rms) → va_S A s.heap H locs → lv_has ls 4 [(0, .ref (q 17)), (1, .ref (q 8)), (2, .int (nI i))] → W p l e rm_X4_startAfresh s m args below meth c H locs 0 0 Q (F0 m 9 ls []) := by
    intro k9
    induction k9 with
    | zero =>
      intro i y9_std hi9 ea9 H locs ls hP hD hS hl
      have hi9 : tp.toNatClampNeg = i := by omega
      subst hi9
      have ea9 : y9_std = (x_X4_startAfresh_9 std tp brd) := ea9
      subst ea9
      refine lv_iload_n hx hb dX4_startAfresh_9 rfl (lv_at hl 2 rfl) ?_
      refine lv_aload_n hx hb dX4_startAfresh_10 rfl (lv_at hl 1 rfl) ?_
      refine va_get (D := D) (ci := 5) (v := .int tp) (C := RX5) (T := TX5) (N := 7) hx hb hts inlX5 hown hK hP 3 rfl rfl 1 (by decide) (kw hts kin_15 22 rfl) (fun _ h9 => h9) rfl dX4_startAfresh_11 ?_
      refine lv_icmp_ge (tgt := 49) hx hb dX4_startAfresh_14 (by decide) (fun _ => ?_) (fun c_14 => absurd (kle_clamp _) c_14)
      have hf : (f_X4_startAfresh std tp brd) = (x_X4_startAfresh_9 std tp brd) := rfl
      rw [hf] at hret
      exact hret _ _ _ _ hP hS dX4_startAfresh_49
    | succ k9 ih9 =>
      intro i y9_std hi9 ea9 H locs ls hP hD hS hl
      have hlt9 : i < tp.toNatClampNeg := by omega
      refine lv_iload_n hx hb dX4_startAfresh_9 rfl (lv_at hl 2 rfl) ?_
      refine lv_aload_n hx hb dX4_startAfresh_10 rfl (lv_at hl 1 rfl) ?_
      refine va_get (D := D) (ci := 5) (v := .int tp) (C := RX5) (T := TX5) (N := 7) hx hb hts inlX5 hown hK hP 3 rfl rfl 1 (by decide) (kw hts kin_15 22 rfl) (fun _ h9 => h9) rfl dX4_startAfresh_11 ?_
      refine lv_icmp_ge (tgt := 49) hx hb dX4_startAfresh_14 (by decide) (fun c_14 => absurd c_14 (klt_clamp hlt9)) (fun _ => ?_)
      refine lv_iconst (v := 0) hx hb dX4_startAfresh_17 (by decide) ?_
      refine lv_istore_n (lv' := [(3, .int 0), (0, .ref (q 17)), (1, .ref (q 8)), (2, .int (nI i))]) hx hb dX4_startAfresh_18 rfl hl (by decide) rfl (fun ls hl => ?_)
      have lp19 : ∀ (k19 i1 : Nat) (y19_std : Nat → Int32), i1 + k19 = 6 → y19_std = lp (fun iz z => nx_X4_startAfresh_19 brd i iz z) y9_std i1 → ∀ (H : Heap) (locs : List Loc) (ls : Array Slot), va_P D vwCl (wStd cI q y19_std ++ wTown cI q tb tp tr knd sec brd rms) H → va_D A (wStd cI q y19_std ++ wTown cI q tb tp tr knd sec brd rms) → va_S A s.heap H locs → lv_has ls 4 [(0, .ref (q 17)), (1, .ref (q 8)), (2, .int (nI i)), (3, .int (nI i1))] → W p l e rm_X4_startAfresh s m args below meth c H locs 0 0 Q (F0 m 19 ls []) := by
        intro k19
        induction k19 with
        | zero =>
          intro i1 y19_std hi19 ea19 H locs ls hP hD hS hl
          have hi19 : 6 = i1 := by omega
          subst hi19
          have ea19 : y19_std = (x_X4_startAfresh_19 brd i y9_std) := ea19
          subst ea19
          refine lv_iload_n hx hb dX4_startAfresh_19 rfl (lv_at hl 3 rfl) ?_
          refine lv_bipush (v := 6) hx hb dX4_startAfresh_20 (by decide) ?_
          refine lv_icmp_ge (tgt := 43) hx hb dX4_startAfresh_22 (by decide) (fun _ => ?_) (fun c_22 => absurd (nI_le (Nat.le_refl _) (by decide)) c_22)
          refine lv_iinc (v := (nI (i + 1))) (lv' := [(2, .int (nI (i + 1))), (0, .ref (q 17)), (1, .ref (q 8)), (3, .int (nI 6))]) hx hb dX4_startAfresh_43 hl (k := 2) rfl (nI_1 i) (by decide) rfl (fun ls hl => ?_)
          refine lv_goto (tgt := 9) hx hb dX4_startAfresh_46 (by decide) ?_
          have hb9 : nx_X4_startAfresh_9 brd i y9_std = (x_X4_startAfresh_19 brd i y9_std) := rfl
          have hs9 : (lp (fun iz z => nx_X4_startAfresh_9 brd iz z) (f_X0_zero 85 std) (i + 1) : (Nat → Int32)) = nx_X4_startAfresh_9 brd i (lp (fun iz z => nx_X4_startAfresh_9 brd iz z) (f_X0_zero 85 std) i : (Nat → Int32)) := lp_succ _ _ _
          rw [← ea9] at hs9
          exact ih9 (i + 1) (x_X4_startAfresh_19 brd i y9_std) (by omega) (hb9.symm.trans hs9.symm) _ _ _ hP hD hS (lv_sub hl [1, 2, 0] rfl)
        | succ k19 ih19 =>
          intro i1 y19_std hi19 ea19 H locs ls hP hD hS hl
          have hlt19 : i1 < 6 := by omega
          refine lv_iload_n hx hb dX4_startAfresh_19 rfl (lv_at hl 3 rfl) ?_
          refine lv_bipush (v := 6) hx hb dX4_startAfresh_20 (by decide) ?_
          refine lv_icmp_ge (tgt := 43) hx hb dX4_startAfresh_22 (by decide) (fun c_22 => absurd c_22 (nI_ge hlt19 (by decide))) (fun _ => ?_)
          refine lv_aload_n hx hb dX4_startAfresh_25 rfl (lv_at hl 0 rfl) ?_
          refine lv_iload_n hx hb dX4_startAfresh_26 rfl (lv_at hl 2 rfl) ?_
          refine lv_iload_n hx hb dX4_startAfresh_27 rfl (lv_at hl 3 rfl) ?_
          refine lv_aload_n hx hb dX4_startAfresh_28 rfl (lv_at hl 1 rfl) ?_
          refine lv_iload_n hx hb dX4_startAfresh_29 rfl (lv_at hl 2 rfl) ?_
          refine lv_iload_n hx hb dX4_startAfresh_30 rfl (lv_at hl 3 rfl) ?_
          refine kvi (As := [.int (nI i), .int (nI i1)]) (rest := [.int (nI i1), .int (nI i), .ref (q 17)]) (q0 := 0) (ci := 5) ⟨hx, hb, hml, hown, hts⟩ hP hK hD hS hA hE (k_X5_toldBeard l D cI cZ adK adV q tb tp tr knd sec brd rms (nI i) (nI i1)) (kcv hts kM_X5_toldBeard (kin_16 _ (List.mem_of_getElem? (i := 0) rfl)) ⟨rfl, rfl⟩ ⟨Nat.le_of_ble_eq_true rfl, Nat.le_of_ble_eq_true rfl⟩) kBl_G kOk_G (wStd cI q y19_std ++ wTown cI q tb tp tr knd sec brd rms) (cut_stdtown_town cI q y19_std tb tp tr knd sec brd rms tb tp tr knd sec brd rms).1 (cut_stdtown_town cI q y19_std tb tp tr knd sec brd rms tb tp tr knd sec brd rms).2 rfl rfl rfl rfl hl.1 rfl (Nat.le_of_ble_eq_true rfl) dX4_startAfresh_31 (fun H locs hP hD hS => ?_)
          refine kvv (As := [.int (nI i), .int (nI i1), .int (f_X5_toldBeard brd (nI i) (nI i1))]) (rest := []) (q0 := 0) (ci := 4) ⟨hx, hb, hml, hown, hts⟩ hP hK hD hS hA hE (k_X4_setBeard l D cI cZ adK adV q y19_std (nI i) (nI i1) (f_X5_toldBeard brd (nI i) (nI i1))) (kcv hts kM_X4_setBeard (kin_16 _ (List.mem_of_getElem? (i := 5) rfl)) ⟨rfl, rfl⟩ ⟨Nat.le_of_ble_eq_true rfl, Nat.le_of_ble_eq_true rfl⟩) kBl_G kOk_G (wStd cI q (f_X4_setBeard y19_std (nI i) (nI i1) (f_X5_toldBeard brd (nI i) (nI i1))) ++ wTown cI q tb tp tr knd sec brd rms) (cut_stdtown_std cI q y19_std tb tp tr knd sec brd rms (f_X4_setBeard y19_std (nI i) (nI i1) (f_X5_toldBeard brd (nI i) (nI i1)))).1 (cut_stdtown_std cI q y19_std tb tp tr knd sec brd rms (f_X4_setBeard y19_std (nI i) (nI i1) (f_X5_toldBeard brd (nI i) (nI i1)))).2 rfl rfl rfl rfl hl.1 rfl (Nat.le_of_ble_eq_true rfl) dX4_startAfresh_34 (fun H locs hP hD hS => ?_)
          refine lv_iinc (v := (nI (i1 + 1))) (lv' := [(3, .int (nI (i1 + 1))), (0, .ref (q 17)), (1, .ref (q 8)), (2, .int (nI i))]) hx hb dX4_startAfresh_37 hl (k := 3) rfl (nI_1 i1) (by decide) rfl (fun ls hl => ?_)
          refine lv_goto (tgt := 19) hx hb dX4_startAfresh_40 (by decide) ?_
          have hb19 : nx_X4_startAfresh_19 brd i i1 y19_std = (f_X4_setBeard y19_std (nI i) (nI i1) (f_X5_toldBeard brd (nI i) (nI i1))) := rfl
          have hs19 : (lp (fun iz z => nx_X4_startAfresh_19 brd i iz z) y9_std (i1 + 1) : (Nat → Int32)) = nx_X4_startAfresh_19 brd i i1 (lp (fun iz z => nx_X4_startAfresh_19 brd i iz z) y9_std i1 : (Nat → Int32)) := lp_succ _ _ _
          rw [← ea19] at hs19
          exact ih19 (i1 + 1) (f_X4_setBeard y19_std (nI i) (nI i1) (f_X5_toldBeard brd (nI i) (nI i1))) (by omega) (hb19.symm.trans hs19.symm) _ _ _ hP hD hS (lv_sub hl [1, 2, 3, 0] rfl)
      exact lp19 6 0 y9_std (Nat.zero_add _) (lp_zero _ _).symm _ _ _ hP hD hS (lv_sub hl [1, 2, 3, 0] rfl)
  exact lp9 tp.toNatClampNeg 0 (f_X0_zero 85 std) (Nat.zero_add _) (lp_zero _ _).symm _ _ _ hP hD hS (lv_sub hl [1, 2, 0] rfl)
