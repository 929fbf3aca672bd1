def f_X1_readNumber (len : Int32) (ncl : Int32) (sen : Int32) (lets : Nat → Int32) (nums : Nat → Int32) (which : Int32) (least : Int32) (most : Int32) : Int32 × Int32 × Int32 × (Nat → Int32) := if (f_X1_numberHere len ((f_X1_step len sen lets).1) ((f_X1_step len sen lets).2) lets) < least then (0, (f_X1_step len sen lets).1, (f_X1_step len sen lets).2, nums) else (if (f_X1_numberHere len ((f_X1_step len sen lets).1) ((f_X1_step len sen lets).2) lets) ≤ most then (1, (f_X1_step len sen lets).1, (f_X1_step len sen lets).2, (f_X0_put 42 nums ((ncl * 3) + which) (f_X1_numberHere len ((f_X1_step len sen lets).1) ((f_X1_step len sen lets).2) lets))) else (0, (f_X1_step len sen lets).1, (f_X1_step len sen lets).2, nums))
abbrev rm_X1_readNumber : Room := { frames := 3, cells := 0, slots := 0, locals := 65 }
theorem b01_X1_readNumber (len : Int32) (ncl : Int32) (sen : Int32) (lets : Nat → Int32) (nums : Nat → Int32) (which : Int32) (least : Int32) (most : Int32) : (f_X1_readNumber len ncl sen lets nums which least most).1 = 0 ∨ (f_X1_readNumber len ncl sen lets nums which least most).1 = 1 := by
  simp only [f_X1_readNumber]
  (repeat' split) <;> first | exact Or.inl rfl | exact Or.inr rfl
set_option maxRecDepth 100000 in
set_option maxHeartbeats 4000000 in
theorem k_X1_readNumber (l : Launch) (D : va_G) (cI cZ : ClassId) (adK adV : Nat → Nat) (q : Nat → Nat) (len : Int32) (ncl : Int32) (spe : Int32) (sru : Int32) (sbe : Int32) (sen : Int32) (lets : Nat → Int32) (wrds : Nat → Int32) (nums : Nat → Int32) (which : Int32) (least : Int32) (most : Int32) : CI l D (kTy cI cZ) (kG adK adV) yX1_readNumber (.code yX1_readNumber cX1_readNumber 5 (some .boolean) :: wsL_law) rm_X1_readNumber [.ref (q 1), .int which, .int least, .int most] (wScr cI q len ncl spe sru sbe sen lets wrds nums) (wScr cI q len ncl spe sru ((f_X1_readNumber len ncl sen lets nums which least most).2.1) ((f_X1_readNumber len ncl sen lets nums which least most).2.2.1) lets wrds ((f_X1_readNumber len ncl sen lets nums which least most).2.2.2)) ((f_X1_readNumber len ncl sen lets nums which least most).1) := by
  refine CI.of (cc := cX1_readNumber) (maxL := 5) (ty := .boolean) (by decide) rfl (Nat.le_of_ble_eq_true rfl) (knb (b01_X1_readNumber len ncl sen lets nums which least most)) ?_
  intro p e s m args below meth c A Q ls hx hb hml hts0 hown hA hP hK hD hE hl hret
  have hts : ∀ w ∈ wsL_law, w.before args s = true := fun w h => hts0 w (List.mem_cons_of_mem _ h)
  clear hts0
  have hown : s.vm.findClass RX1 = some m.cls := hown
  have hl : lv_has ls 5 [(0, .ref (q 1)), (1, .int which), (2, .int least), (3, .int most)] := hl
  have hS : va_S A s.heap s.heap [] := va_S.rf
  revert hP hS
  suffices hgo : ∀ (H : Heap) (locs : List Loc), va_P D vwCl (wScr cI q len ncl spe sru sbe sen lets wrds nums) H → va_S A s.heap H locs → W p l e rm_X1_readNumber s m args below meth c H locs 0 0 Q (F0 m 0 ls []) from fun a b => hgo _ _ a b
  intro H locs hP hS
  refine lv_aload_n hx hb dX1_readNumber_0 rfl (lv_at hl 0 rfl) ?_
  refine kvv (As := []) (rest := []) (q0 := 0) (ci := 1) ⟨hx, hb, hml, hown, hts⟩ hP hK hD hS hA hE (k_X1_step l D cI cZ adK adV q len ncl spe sru sbe sen lets wrds nums) (kcv hts kM_X1_step (kin_7 _ (List.mem_of_getElem? (i := 12) rfl)) ⟨rfl, rfl⟩ ⟨Nat.le_of_ble_eq_true rfl, Nat.le_of_ble_eq_true rfl⟩) kBl_G kOk_G (wScr cI q len ncl spe sru ((f_X1_step len sen lets).1) ((f_X1_step len sen lets).2) lets wrds nums) (cut_scr_scr cI q len ncl spe sru sbe sen lets wrds nums len ncl spe sru ((f_X1_step len sen lets).1) ((f_X1_step len sen lets).2) lets wrds nums).1 (cut_scr_scr cI q len ncl spe sru sbe sen lets wrds nums len ncl spe sru ((f_X1_step len sen lets).1) ((f_X1_step len sen lets).2) lets wrds nums).2 rfl rfl rfl rfl hl.1 rfl (Nat.le_of_ble_eq_true rfl) dX1_readNumber_1 (fun H locs hP hD hS => ?_)
  refine lv_aload_n hx hb dX1_readNumber_4 rfl (lv_at hl 0 rfl) ?_
  refine kvi (As := []) (rest := []) (q0 := 0) (ci := 1) ⟨hx, hb, hml, hown, hts⟩ hP hK hD hS hA hE (k_X1_numberHere l D cI cZ adK adV q len ncl spe sru ((f_X1_step len sen lets).1) ((f_X1_step len sen lets).2) lets wrds nums) (kcv hts kM_X1_numberHere (kin_11 _ (List.mem_of_getElem? (i := 4) rfl)) ⟨rfl, rfl⟩ ⟨Nat.le_of_ble_eq_true rfl, Nat.le_of_ble_eq_true rfl⟩) kBl_G kOk_G (wScr cI q len ncl spe sru ((f_X1_step len sen lets).1) ((f_X1_step len sen lets).2) lets wrds nums) (cut_scr_scr cI q len ncl spe sru ((f_X1_step len sen lets).1) ((f_X1_step len sen lets).2) lets wrds nums len ncl spe sru ((f_X1_step len sen lets).1) ((f_X1_step len sen lets).2) lets wrds nums).1 (cut_scr_scr cI q len ncl spe sru ((f_X1_step len sen lets).1) ((f_X1_step len sen lets).2) lets wrds nums len ncl spe sru ((f_X1_step len sen lets).1) ((f_X1_step len sen lets).2) lets wrds nums).2 rfl rfl rfl rfl hl.1 rfl (Nat.le_of_ble_eq_true rfl) dX1_readNumber_5 (fun H locs hP hD hS => ?_)
  refine lv_istore (lv' := [(4, .int (f_X1_numberHere len ((f_X1_step len sen lets).1) ((f_X1_step len sen lets).2) lets)), (0, .ref (q 1)), (1, .int which), (2, .int least), (3, .int most)]) hx hb dX1_readNumber_8 hl (by decide) rfl (fun ls hl => ?_)
  refine lv_iload hx hb dX1_readNumber_10 (lv_at hl 0 rfl) ?_
  refine lv_iload_n hx hb dX1_readNumber_12 rfl (lv_at hl 3 rfl) ?_
  refine lv_icmp_lt (tgt := 22) hx hb dX1_readNumber_13 (by decide) (fun c_13 => ?_) (fun c_13 => ?_)
  · skip
    refine lv_iconst (v := 0) hx hb dX1_readNumber_22 (by decide) ?_
    have hf : (f_X1_readNumber len ncl sen lets nums which least most) = (0, (f_X1_step len sen lets).1, (f_X1_step len sen lets).2, nums) := (if_pos c_13)
    rw [hf] at hret
    dsimp only at hret
    exact hret _ _ _ _ hP hS dX1_readNumber_23
  · skip
    refine lv_iload hx hb dX1_readNumber_16 (lv_at hl 0 rfl) ?_
    refine lv_iload_n hx hb dX1_readNumber_18 rfl (lv_at hl 4 rfl) ?_
    refine lv_icmp_le (tgt := 24) hx hb dX1_readNumber_19 (by decide) (fun c_19 => ?_) (fun c_19 => ?_)
    · skip
      refine lv_aload_n hx hb dX1_readNumber_24 rfl (lv_at hl 1 rfl) ?_
      refine va_get (D := D) (ci := 1) (v := .ref (q 6)) (C := RX1) (T := TX1) (N := 9) hx hb hts inlX1 hown hK hP 0 rfl rfl 2 (by decide) (kw hts kin_2 21 rfl) (fun _ h9 => h9) rfl dX1_readNumber_25 ?_
      refine lv_aload_n hx hb dX1_readNumber_28 rfl (lv_at hl 1 rfl) ?_
      refine va_get (D := D) (ci := 1) (v := .int ncl) (C := RX1) (T := TX1) (N := 9) hx hb hts inlX1 hown hK hP 0 rfl rfl 4 (by decide) (kw hts kin_7 9 rfl) (fun _ h9 => h9) rfl dX1_readNumber_29 ?_
      refine lv_iconst (v := 3) hx hb dX1_readNumber_32 (by decide) ?_
      refine lv_imul hx hb dX1_readNumber_33 ?_
      refine lv_iload_n hx hb dX1_readNumber_34 rfl (lv_at hl 2 rfl) ?_
      refine lv_iadd hx hb dX1_readNumber_35 ?_
      refine lv_iload hx hb dX1_readNumber_36 (lv_at hl 0 rfl) ?_
      refine kvv (As := [.int ((ncl * 3) + which), .int (f_X1_numberHere len ((f_X1_step len sen lets).1) ((f_X1_step len sen lets).2) lets)]) (rest := []) (q0 := 0) (ci := 0) ⟨hx, hb, hml, hown, hts⟩ hP hK hD hS hA hE (k_X0_put l D cI cZ adK adV (q 6) (q 7) 42 nums ((ncl * 3) + which) (f_X1_numberHere len ((f_X1_step len sen lets).1) ((f_X1_step len sen lets).2) lets) (by decide)) (kcv hts kM_X0_put (kin_5 _ (List.mem_of_getElem? (i := 20) rfl)) ⟨rfl, rfl⟩ ⟨Nat.le_of_ble_eq_true rfl, Nat.le_of_ble_eq_true rfl⟩) kBl_G kOk_G (wScr cI q len ncl spe sru ((f_X1_step len sen lets).1) ((f_X1_step len sen lets).2) lets wrds (f_X0_put 42 nums ((ncl * 3) + which) (f_X1_numberHere len ((f_X1_step len sen lets).1) ((f_X1_step len sen lets).2) lets))) (cut_scr_row_5_6 cI q len ncl spe sru ((f_X1_step len sen lets).1) ((f_X1_step len sen lets).2) lets wrds nums (f_X0_put 42 nums ((ncl * 3) + which) (f_X1_numberHere len ((f_X1_step len sen lets).1) ((f_X1_step len sen lets).2) lets))).1 (cut_scr_row_5_6 cI q len ncl spe sru ((f_X1_step len sen lets).1) ((f_X1_step len sen lets).2) lets wrds nums (f_X0_put 42 nums ((ncl * 3) + which) (f_X1_numberHere len ((f_X1_step len sen lets).1) ((f_X1_step len sen lets).2) lets))).2 rfl rfl rfl rfl hl.1 rfl (Nat.le_of_ble_eq_true rfl) dX1_readNumber_38 (fun H locs hP hD hS => ?_)
      refine lv_iconst (v := 1) hx hb dX1_readNumber_41 (by decide) ?_
      have hf : (f_X1_readNumber len ncl sen lets nums which least most) = (1, (f_X1_step len sen lets).1, (f_X1_step len sen lets).2, (f_X0_put 42 nums ((ncl * 3) + which) (f_X1_numberHere len ((f_X1_step len sen lets).1) ((f_X1_step len sen lets).2) lets))) := ((if_neg c_13).trans (if_pos c_19))
      rw [hf] at hret
      dsimp only at hret
      exact hret _ _ _ _ hP hS dX1_readNumber_42
    · skip
      refine lv_iconst (v := 0) hx hb dX1_readNumber_22 (by decide) ?_
      have hf : (f_X1_readNumber len ncl sen lets nums which least most) = (0, (f_X1_step len sen lets).1, (f_X1_step len sen lets).2, nums) := ((if_neg c_13).trans (if_neg c_19))
      rw [hf] at hret
      dsimp only at hret
      exact hret _ _ _ _ hP hS dX1_readNumber_23
