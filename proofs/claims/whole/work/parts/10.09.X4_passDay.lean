def nx_X4_passDay_23 (i : Nat) (i1 : Nat) (y23_std : Nat → Int32) : (Nat → Int32) := (f_X4_setBeard y23_std (nI i) (nI i1) (if ((f_X4_beardOn y23_std (nI i) (nI i1)) + 1) < 9 then ((f_X4_beardOn y23_std (nI i) (nI i1)) + 1) else 9))
def x_X4_passDay_23 (i : Nat) (y16_std : Nat → Int32) : (Nat → Int32) := lp (fun iz z => nx_X4_passDay_23 i iz z) y16_std 6
def nx_X4_passDay_16 (i : Nat) (y16_std : Nat → Int32) : (Nat → Int32) := (x_X4_passDay_23 i y16_std)
def x_X4_passDay_16 (std : Nat → Int32) (people : Int32) : (Nat → Int32) := lp (fun iz z => nx_X4_passDay_16 iz z) (f_X0_put 85 std 0 ((f_X4_date std) + 1)) people.toNatClampNeg
def f_X4_passDay (std : Nat → Int32) (people : Int32) : (Nat → Int32) := (x_X4_passDay_16 std people)
abbrev rm_X4_passDay : Room := { frames := 2, cells := 0, slots := 0, locals := 45 }
set_option maxRecDepth 100000 in
set_option maxHeartbeats 4000000 in
theorem k_X4_passDay (l : Launch) (D : va_G) (cI cZ : ClassId) (adK adV : Nat → Nat) (q : Nat → Nat) (std : Nat → Int32) (people : Int32) : CV l D (kTy cI cZ) (kG adK adV) yX4_passDay (.code yX4_passDay cX4_passDay 4 none :: wsL_law) rm_X4_passDay [.ref (q 17), .int people] (wStd cI q std) (wStd cI q (f_X4_passDay std people)) := by
  refine CV.of (cc := cX4_passDay) (maxL := 4) (by decide) rfl (Nat.le_of_ble_eq_true rfl) ?_
  intro p e s m args below meth c A Q ls hx hb hml hts0 hown hA hP hK hD hE hl hret
  have hts : ∀ w ∈ wsL_law, w.before args s = true := fun w h => hts0 w (List.mem_cons_of_mem _ h)
  clear hts0
  have hown : s.vm.findClass RX4 = some m.cls := hown
  have hl : lv_has ls 4 [(0, .ref (q 17)), (1, .int people)] := hl
  have hS : va_S A s.heap s.heap [] := va_S.rf
  revert hP hS
  suffices hgo : ∀ (H : Heap) (locs : List Loc), va_P D vwCl (wStd cI q std) H → va_S A s.heap H locs → W p l e rm_X4_passDay s m args below meth c H locs 0 0 Q (F0 m 0 ls []) from fun a b => hgo _ _ a b
  intro H locs hP hS
  refine lv_aload_n hx hb dX4_passDay_0 rfl (lv_at hl 0 rfl) ?_
  refine va_get (D := D) (ci := 4) (v := .ref (q 18)) (C := RX4) (T := TX4) (N := 1) hx hb hts inlX4 hown hK hP 0 rfl rfl 0 (by decide) (kw hts kin_4 0 rfl) (fun _ h9 => h9) rfl dX4_passDay_1 ?_
  refine lv_iconst (v := 0) hx hb dX4_passDay_4 (by decide) ?_
  refine lv_aload_n hx hb dX4_passDay_5 rfl (lv_at hl 0 rfl) ?_
  refine kvi (As := []) (rest := [.int 0, .ref (q 18)]) (q0 := 0) (ci := 4) ⟨hx, hb, hml, hown, hts⟩ hP hK hD hS hA hE (k_X4_date l D cI cZ adK adV q std) (kcv hts kM_X4_date (kin_25 _ (List.mem_of_getElem? (i := 20) rfl)) ⟨rfl, rfl⟩ ⟨Nat.le_of_ble_eq_true rfl, Nat.le_of_ble_eq_true rfl⟩) kBl_G kOk_G (wStd cI q std) (cut_std_std cI q std std).1 (cut_std_std cI q std std).2 rfl rfl rfl rfl hl.1 rfl (Nat.le_of_ble_eq_true rfl) dX4_passDay_6 (fun H locs hP hD hS => ?_)
  refine lv_iconst (v := 1) hx hb dX4_passDay_9 (by decide) ?_
  refine lv_iadd hx hb dX4_passDay_10 ?_
  refine kvv (As := [.int 0, .int ((f_X4_date std) + 1)]) (rest := []) (q0 := 0) (ci := 0) ⟨hx, hb, hml, hown, hts⟩ hP hK hD hS hA hE (k_X0_put l D cI cZ adK adV (q 18) (q 19) 85 std 0 ((f_X4_date std) + 1) (by decide)) (kcv hts kM_X0_put (kin_16 _ (List.mem_of_getElem? (i := 9) rfl)) ⟨rfl, rfl⟩ ⟨Nat.le_of_ble_eq_true rfl, Nat.le_of_ble_eq_true rfl⟩) kBl_G kOk_G (wStd cI q (f_X0_put 85 std 0 ((f_X4_date std) + 1))) (cut_std_row_1_2 cI q std (f_X0_put 85 std 0 ((f_X4_date std) + 1))).1 (cut_std_row_1_2 cI q std (f_X0_put 85 std 0 ((f_X4_date std) + 1))).2 rfl rfl rfl rfl hl.1 rfl (Nat.le_of_ble_eq_true rfl) dX4_passDay_11 (fun H locs hP hD hS => ?_)
  refine lv_iconst (v := 0) hx hb dX4_passDay_14 (by decide) ?_
  refine lv_istore_n (lv' := [(2, .int 0), (0, .ref (q 17)), (1, .int people)]) hx hb dX4_passDay_15 rfl hl (by decide) rfl (fun ls hl => ?_)
  have lp16 : ∀ (k16 i : Nat) (y16_std : Nat → Int32), i + k16 = people.toNatClampNeg → y16_std = lp (fun iz z => nx_X4_passDay_16 iz z) (f_X0_put 85 std 0 ((f_X4_date std) + 1)) i → ∀ (H : Heap) (locs : List Loc) (ls : Array Slot), va_P D vwCl (wStd cI q y16_std) H → va_D A (wStd cI q y16_std) → va_S A s.heap H locs → lv_has ls 4 [(0, .ref (q 17)), (1, .int people), (2, .int (nI i))] → W p l e rm_X4_passDay s m args below meth c H locs 0 0 Q (F0 m 16 ls []) := by
    intro k16
    induction k16 with
    | zero =>
      intro i y16_std hi16 ea16 H locs ls hP hD hS hl
      have hi16 : people.toNatClampNeg = i := by omega
      subst hi16
      have ea16 : y16_std = (x_X4_passDay_16 std people) := ea16
      subst ea16
      refine lv_iload_n hx hb dX4_passDay_16 rfl (lv_at hl 2 rfl) ?_
      refine lv_iload_n hx hb dX4_passDay_17 rfl (lv_at hl 1 rfl) ?_
      refine lv_icmp_ge (tgt := 60) hx hb dX4_passDay_18 (by decide) (fun _ => ?_) (fun c_18 => absurd (kle_clamp _) c_18)
      have hf : (f_X4_passDay std people) = (x_X4_passDay_16 std people) := rfl
      rw [hf] at hret
      exact hret _ _ _ _ hP hS dX4_passDay_60
    | succ k16 ih16 =>
      intro i y16_std hi16 ea16 H locs ls hP hD hS hl
      have hlt16 : i < people.toNatClampNeg := by omega
      refine lv_iload_n hx hb dX4_passDay_16 rfl (lv_at hl 2 rfl) ?_
      refine lv_iload_n hx hb dX4_passDay_17 rfl (lv_at hl 1 rfl) ?_
      refine lv_icmp_ge (tgt := 60) hx hb dX4_passDay_18 (by decide) (fun c_18 => absurd c_18 (klt_clamp hlt16)) (fun _ => ?_)
      refine lv_iconst (v := 0) hx hb dX4_passDay_21 (by decide) ?_
      refine lv_istore_n (lv' := [(3, .int 0), (0, .ref (q 17)), (1, .int people), (2, .int (nI i))]) hx hb dX4_passDay_22 rfl hl (by decide) rfl (fun ls hl => ?_)
      have lp23 : ∀ (k23 i1 : Nat) (y23_std : Nat → Int32), i1 + k23 = 6 → y23_std = lp (fun iz z => nx_X4_passDay_23 i iz z) y16_std i1 → ∀ (H : Heap) (locs : List Loc) (ls : Array Slot), va_P D vwCl (wStd cI q y23_std) H → va_D A (wStd cI q y23_std) → va_S A s.heap H locs → lv_has ls 4 [(0, .ref (q 17)), (1, .int people), (2, .int (nI i)), (3, .int (nI i1))] → W p l e rm_X4_passDay s m args below meth c H locs 0 0 Q (F0 m 23 ls []) := by
        intro k23
        induction k23 with
        | zero =>
          intro i1 y23_std hi23 ea23 H locs ls hP hD hS hl
          have hi23 : 6 = i1 := by omega
          subst hi23
          have ea23 : y23_std = (x_X4_passDay_23 i y16_std) := ea23
          subst ea23
          refine lv_iload_n hx hb dX4_passDay_23 rfl (lv_at hl 3 rfl) ?_
          refine lv_bipush (v := 6) hx hb dX4_passDay_24 (by decide) ?_
          refine lv_icmp_ge (tgt := 54) hx hb dX4_passDay_26 (by decide) (fun _ => ?_) (fun c_26 => absurd (nI_le (Nat.le_refl _) (by decide)) c_26)
          refine lv_iinc (v := (nI (i + 1))) (lv' := [(2, .int (nI (i + 1))), (0, .ref (q 17)), (1, .int people), (3, .int (nI 6))]) hx hb dX4_passDay_54 hl (k := 2) rfl (nI_1 i) (by decide) rfl (fun ls hl => ?_)
          refine lv_goto (tgt := 16) hx hb dX4_passDay_57 (by decide) ?_
          have hb16 : nx_X4_passDay_16 i y16_std = (x_X4_passDay_23 i y16_std) := rfl
          have hs16 : (lp (fun iz z => nx_X4_passDay_16 iz z) (f_X0_put 85 std 0 ((f_X4_date std) + 1)) (i + 1) : (Nat → Int32)) = nx_X4_passDay_16 i (lp (fun iz z => nx_X4_passDay_16 iz z) (f_X0_put 85 std 0 ((f_X4_date std) + 1)) i : (Nat → Int32)) := lp_succ _ _ _
          rw [← ea16] at hs16
          exact ih16 (i + 1) (x_X4_passDay_23 i y16_std) (by omega) (hb16.symm.trans hs16.symm) _ _ _ hP hD hS (lv_sub hl [1, 2, 0] rfl)
        | succ k23 ih23 =>
          intro i1 y23_std hi23 ea23 H locs ls hP hD hS hl
          have hlt23 : i1 < 6 := by omega
          refine lv_iload_n hx hb dX4_passDay_23 rfl (lv_at hl 3 rfl) ?_
          refine lv_bipush (v := 6) hx hb dX4_passDay_24 (by decide) ?_
          refine lv_icmp_ge (tgt := 54) hx hb dX4_passDay_26 (by decide) (fun c_26 => absurd c_26 (nI_ge hlt23 (by decide))) (fun _ => ?_)
          refine lv_aload_n hx hb dX4_passDay_29 rfl (lv_at hl 0 rfl) ?_
          refine lv_iload_n hx hb dX4_passDay_30 rfl (lv_at hl 2 rfl) ?_
          refine lv_iload_n hx hb dX4_passDay_31 rfl (lv_at hl 3 rfl) ?_
          refine lv_bipush (v := 9) hx hb dX4_passDay_32 (by decide) ?_
          refine lv_aload_n hx hb dX4_passDay_34 rfl (lv_at hl 0 rfl) ?_
          refine lv_iload_n hx hb dX4_passDay_35 rfl (lv_at hl 2 rfl) ?_
          refine lv_iload_n hx hb dX4_passDay_36 rfl (lv_at hl 3 rfl) ?_
          refine kvi (As := [.int (nI i), .int (nI i1)]) (rest := [.int 9, .int (nI i1), .int (nI i), .ref (q 17)]) (q0 := 0) (ci := 4) ⟨hx, hb, hml, hown, hts⟩ hP hK hD hS hA hE (k_X4_beardOn l D cI cZ adK adV q y23_std (nI i) (nI i1)) (kcv hts kM_X4_beardOn (kin_17 _ (List.mem_of_getElem? (i := 17) rfl)) ⟨rfl, rfl⟩ ⟨Nat.le_of_ble_eq_true rfl, Nat.le_of_ble_eq_true rfl⟩) kBl_G kOk_G (wStd cI q y23_std) (cut_std_std cI q y23_std y23_std).1 (cut_std_std cI q y23_std y23_std).2 rfl rfl rfl rfl hl.1 rfl (Nat.le_of_ble_eq_true rfl) dX4_passDay_37 (fun H locs hP hD hS => ?_)
          refine lv_iconst (v := 1) hx hb dX4_passDay_40 (by decide) ?_
          refine lv_iadd hx hb dX4_passDay_41 ?_
          refine va_mmin hx hb (hml.trans hl.1.symm) hown (kw hts kin_25 19 rfl) (kw hts kin_5 18 rfl) (kw hts kin_3 4 rfl) (kw hts kin_5 19 rfl) (Nat.le_of_ble_eq_true rfl) (Nat.le_of_ble_eq_true rfl) (Nat.zero_le _) (Nat.zero_le _) dX4_passDay_42 ?_
          refine kvv (As := [.int (nI i), .int (nI i1), .int (if ((f_X4_beardOn y23_std (nI i) (nI i1)) + 1) < 9 then ((f_X4_beardOn y23_std (nI i) (nI i1)) + 1) else 9)]) (rest := []) (q0 := 0) (ci := 4) ⟨hx, hb, hml, hown, hts⟩ hP hK hD hS hA hE (k_X4_setBeard l D cI cZ adK adV q y23_std (nI i) (nI i1) (if ((f_X4_beardOn y23_std (nI i) (nI i1)) + 1) < 9 then ((f_X4_beardOn y23_std (nI i) (nI i1)) + 1) else 9)) (kcv hts kM_X4_setBeard (kin_16 _ (List.mem_of_getElem? (i := 5) rfl)) ⟨rfl, rfl⟩ ⟨Nat.le_of_ble_eq_true rfl, Nat.le_of_ble_eq_true rfl⟩) kBl_G kOk_G (wStd cI q (f_X4_setBeard y23_std (nI i) (nI i1) (if ((f_X4_beardOn y23_std (nI i) (nI i1)) + 1) < 9 then ((f_X4_beardOn y23_std (nI i) (nI i1)) + 1) else 9))) (cut_std_std cI q y23_std (f_X4_setBeard y23_std (nI i) (nI i1) (if ((f_X4_beardOn y23_std (nI i) (nI i1)) + 1) < 9 then ((f_X4_beardOn y23_std (nI i) (nI i1)) + 1) else 9))).1 (cut_std_std cI q y23_std (f_X4_setBeard y23_std (nI i) (nI i1) (if ((f_X4_beardOn y23_std (nI i) (nI i1)) + 1) < 9 then ((f_X4_beardOn y23_std (nI i) (nI i1)) + 1) else 9))).2 rfl rfl rfl rfl hl.1 rfl (Nat.le_of_ble_eq_true rfl) dX4_passDay_45 (fun H locs hP hD hS => ?_)
          refine lv_iinc (v := (nI (i1 + 1))) (lv' := [(3, .int (nI (i1 + 1))), (0, .ref (q 17)), (1, .int people), (2, .int (nI i))]) hx hb dX4_passDay_48 hl (k := 3) rfl (nI_1 i1) (by decide) rfl (fun ls hl => ?_)
          refine lv_goto (tgt := 23) hx hb dX4_passDay_51 (by decide) ?_
          have hb23 : nx_X4_passDay_23 i i1 y23_std = (f_X4_setBeard y23_std (nI i) (nI i1) (if ((f_X4_beardOn y23_std (nI i) (nI i1)) + 1) < 9 then ((f_X4_beardOn y23_std (nI i) (nI i1)) + 1) else 9)) := rfl
          have hs23 : (lp (fun iz z => nx_X4_passDay_23 i iz z) y16_std (i1 + 1) : (Nat → Int32)) = nx_X4_passDay_23 i i1 (lp (fun iz z => nx_X4_passDay_23 i iz z) y16_std i1 : (Nat → Int32)) := lp_succ _ _ _
          rw [← ea23] at hs23
          exact ih23 (i1 + 1) (f_X4_setBeard y23_std (nI i) (nI i1) (if ((f_X4_beardOn y23_std (nI i) (nI i1)) + 1) < 9 then ((f_X4_beardOn y23_std (nI i) (nI i1)) + 1) else 9)) (by omega) (hb23.symm.trans hs23.symm) _ _ _ hP hD hS (lv_sub hl [1, 2, 3, 0] rfl)
      exact lp23 6 0 y16_std (Nat.zero_add _) (lp_zero _ _).symm _ _ _ hP hD hS (lv_sub hl [1, 2, 3, 0] rfl)
  exact lp16 people.toNatClampNeg 0 (f_X0_put 85 std 0 ((f_X4_date std) + 1)) (Nat.zero_add _) (lp_zero _ _).symm _ _ _ hP hD hS (lv_sub hl [1, 2, 0] rfl)
