def lo_X1_step_8 (len : Int32) (lets : Nat → Int32) : Nat → Int32 → Int32
  | 0, y8_sbe => y8_sbe
  | k8 + 1, y8_sbe => if len ≤ y8_sbe then y8_sbe else (if (f_X0_at 160 lets y8_sbe) = 32 then (lo_X1_step_8 len lets k8 (y8_sbe + 1)) else y8_sbe)
def x_X1_step_8 (len : Int32) (sen : Int32) (lets : Nat → Int32) : Int32 := lo_X1_step_8 len lets (((len.toInt - sen.toInt).toNat) + 1) sen
def lo_X1_step_74 (len : Int32) (sen : Int32) (lets : Nat → Int32) : Nat → Int32 → Int32
  | 0, y74_sen => y74_sen
  | k74 + 1, y74_sen => if len ≤ y74_sen then y74_sen else (if (f_X1_sortAt lets (x_X1_step_8 len sen lets)) = 0 then y74_sen else (if (f_X1_sortAt lets y74_sen) = (f_X1_sortAt lets (x_X1_step_8 len sen lets)) then (lo_X1_step_74 len sen lets k74 (y74_sen + 1)) else y74_sen))
def x_X1_step_74 (len : Int32) (sen : Int32) (lets : Nat → Int32) : Int32 := lo_X1_step_74 len sen lets (((len.toInt - (if ((x_X1_step_8 len sen lets) + 1) < len then ((x_X1_step_8 len sen lets) + 1) else len).toInt).toNat) + 1) (if ((x_X1_step_8 len sen lets) + 1) < len then ((x_X1_step_8 len sen lets) + 1) else len)
def f_X1_step (len : Int32) (sen : Int32) (lets : Nat → Int32) : Int32 × Int32 := ((x_X1_step_8 len sen lets), (x_X1_step_74 len sen lets))
abbrev rm_X1_step : Room := { frames := 2, cells := 0, slots := 0, locals := 43 }
set_option maxRecDepth 100000 in
set_option maxHeartbeats 4000000 in
theorem k_X1_step (l : Launch) (D : va_G) (cI cZ : ClassId) (adK adV : Nat → Nat) (q : Nat → Nat) (len : Int32) (ncl : Int32) (spe : Int32) (sru : Int32) (sbe : Int32) (sen : Int32) (lets : Nat → Int32) (wrds : Nat → Int32) (nums : Nat → Int32) : CV l D (kTy cI cZ) (kG adK adV) yX1_step (.code yX1_step cX1_step 2 none :: wsL_law) rm_X1_step [.ref (q 1)] (wScr cI q len ncl spe sru sbe sen lets wrds nums) (wScr cI q len ncl spe sru ((f_X1_step len sen lets).1) ((f_X1_step len sen lets).2) lets wrds nums) := by
  refine CV.of (cc := cX1_step) (maxL := 2) (by decide) rfl (Nat.le_of_ble_eq_true rfl) ?_
  intro p e s m args below meth c A Q ls hx hb hml hts0 hown hA hP hK hD hE hl hret
  have hts : ∀ w ∈ wsL_law, w.before args s = true := fun w h => hts0 w (List.mem_cons_of_mem _ h)
  clear hts0
  have hown : s.vm.findClass RX1 = some m.cls := hown
  have hl : lv_has ls 2 [(0, .ref (q 1))] := hl
  have hS : va_S A s.heap s.heap [] := va_S.rf
  revert hP hS
  suffices hgo : ∀ (H : Heap) (locs : List Loc), va_P D vwCl (wScr cI q len ncl spe sru sbe sen lets wrds nums) H → va_S A s.heap H locs → W p l e rm_X1_step s m args below meth c H locs 0 0 Q (F0 m 0 ls []) from fun a b => hgo _ _ a b
  intro H locs hP hS
  refine lv_aload_n hx hb dX1_step_0 rfl (lv_at hl 0 rfl) ?_
  refine lv_aload_n hx hb dX1_step_1 rfl (lv_at hl 0 rfl) ?_
  refine va_get (D := D) (ci := 1) (v := .int sen) (C := RX1) (T := TX1) (N := 9) hx hb hts inlX1 hown hK hP 0 rfl rfl 8 (by decide) (kw hts kin_7 10 rfl) (fun _ h9 => h9) rfl dX1_step_2 ?_
  refine va_put (D := D) (ci := 1) (v := .int sen) (ty := .int) (C := RX1) (T := TX1) (N := 9) hx hb hts inlX1 tyX1 tyX1_ok nmX1 hown hK hP hD hS 0 rfl rfl 7 (by decide) (kw hts kin_7 11 rfl) (fun _ h9 => h9) rfl (by decide +kernel) rfl rfl (Nat.le_of_ble_eq_true rfl) dX1_step_5 (fun H locs hP hD hS => ?_)
  have hP : va_P D vwCl (wScr cI q len ncl spe sru sen sen lets wrds nums) H := hP
  have hD : va_D A (wScr cI q len ncl spe sru sen sen lets wrds nums) := hD
  have K8 : ∀ (H : Heap) (locs : List Loc) (ls : Array Slot), va_P D vwCl (wScr cI q len ncl spe sru (x_X1_step_8 len sen lets) sen lets wrds nums) H → va_D A (wScr cI q len ncl spe sru (x_X1_step_8 len sen lets) sen lets wrds nums) → va_S A s.heap H locs → lv_has ls 2 [(0, .ref (q 1))] → W p l e rm_X1_step s m args below meth c H locs 0 0 Q (F0 m 48 ls []) := by
    intro H locs ls hP hD hS hl
    refine lv_aload_n hx hb dX1_step_48 rfl (lv_at hl 0 rfl) ?_
    refine lv_aload_n hx hb dX1_step_49 rfl (lv_at hl 0 rfl) ?_
    refine va_get (D := D) (ci := 1) (v := .int len) (C := RX1) (T := TX1) (N := 9) hx hb hts inlX1 hown hK hP 0 rfl rfl 3 (by decide) (kw hts kin_5 16 rfl) (fun _ h9 => h9) rfl dX1_step_50 ?_
    refine lv_aload_n hx hb dX1_step_53 rfl (lv_at hl 0 rfl) ?_
    refine va_get (D := D) (ci := 1) (v := .int (x_X1_step_8 len sen lets)) (C := RX1) (T := TX1) (N := 9) hx hb hts inlX1 hown hK hP 0 rfl rfl 7 (by decide) (kw hts kin_7 11 rfl) (fun _ h9 => h9) rfl dX1_step_54 ?_
    refine lv_iconst (v := 1) hx hb dX1_step_57 (by decide) ?_
    refine lv_iadd hx hb dX1_step_58 ?_
    refine va_mmin hx hb (hml.trans hl.1.symm) hown (kw hts kin_5 17 rfl) (kw hts kin_5 18 rfl) (kw hts kin_3 4 rfl) (kw hts kin_5 19 rfl) (Nat.le_of_ble_eq_true rfl) (Nat.le_of_ble_eq_true rfl) (Nat.zero_le _) (Nat.zero_le _) dX1_step_59 ?_
    refine va_put (D := D) (ci := 1) (v := .int (if ((x_X1_step_8 len sen lets) + 1) < len then ((x_X1_step_8 len sen lets) + 1) else len)) (ty := .int) (C := RX1) (T := TX1) (N := 9) hx hb hts inlX1 tyX1 tyX1_ok nmX1 hown hK hP hD hS 0 rfl rfl 8 (by decide) (kw hts kin_7 10 rfl) (fun _ h9 => h9) rfl (by decide +kernel) rfl rfl (Nat.le_of_ble_eq_true rfl) dX1_step_62 (fun H locs hP hD hS => ?_)
    have hP : va_P D vwCl (wScr cI q len ncl spe sru (x_X1_step_8 len sen lets) (if ((x_X1_step_8 len sen lets) + 1) < len then ((x_X1_step_8 len sen lets) + 1) else len) lets wrds nums) H := hP
    have hD : va_D A (wScr cI q len ncl spe sru (x_X1_step_8 len sen lets) (if ((x_X1_step_8 len sen lets) + 1) < len then ((x_X1_step_8 len sen lets) + 1) else len) lets wrds nums) := hD
    refine lv_aload_n hx hb dX1_step_65 rfl (lv_at hl 0 rfl) ?_
    refine lv_aload_n hx hb dX1_step_66 rfl (lv_at hl 0 rfl) ?_
    refine va_get (D := D) (ci := 1) (v := .int (x_X1_step_8 len sen lets)) (C := RX1) (T := TX1) (N := 9) hx hb hts inlX1 hown hK hP 0 rfl rfl 7 (by decide) (kw hts kin_7 11 rfl) (fun _ h9 => h9) rfl dX1_step_67 ?_
    refine kvi (As := [.int (x_X1_step_8 len sen lets)]) (rest := []) (q0 := 0) (ci := 1) ⟨hx, hb, hml, hown, hts⟩ hP hK hD hS hA hE (k_X1_sortAt l D cI cZ adK adV q len ncl spe sru (x_X1_step_8 len sen lets) (if ((x_X1_step_8 len sen lets) + 1) < len then ((x_X1_step_8 len sen lets) + 1) else len) lets wrds nums (x_X1_step_8 len sen lets)) (kcv hts kM_X1_sortAt (kin_7 _ (List.mem_of_getElem? (i := 20) rfl)) ⟨rfl, rfl⟩ ⟨Nat.le_of_ble_eq_true rfl, Nat.le_of_ble_eq_true rfl⟩) kBl_G kOk_G (wScr cI q len ncl spe sru (x_X1_step_8 len sen lets) (if ((x_X1_step_8 len sen lets) + 1) < len then ((x_X1_step_8 len sen lets) + 1) else len) lets wrds nums) (cut_scr_scr cI q len ncl spe sru (x_X1_step_8 len sen lets) (if ((x_X1_step_8 len sen lets) + 1) < len then ((x_X1_step_8 len sen lets) + 1) else len) lets wrds nums len ncl spe sru (x_X1_step_8 len sen lets) (if ((x_X1_step_8 len sen lets) + 1) < len then ((x_X1_step_8 len sen lets) + 1) else len) lets wrds nums).1 (cut_scr_scr cI q len ncl spe sru (x_X1_step_8 len sen lets) (if ((x_X1_step_8 len sen lets) + 1) < len then ((x_X1_step_8 len sen lets) + 1) else len) lets wrds nums len ncl spe sru (x_X1_step_8 len sen lets) (if ((x_X1_step_8 len sen lets) + 1) < len then ((x_X1_step_8 len sen lets) + 1) else len) lets wrds nums).2 rfl rfl rfl rfl hl.1 rfl (Nat.le_of_ble_eq_true rfl) dX1_step_70 (fun H locs hP hD hS => ?_)
    refine lv_istore_n (lv' := [(1, .int (f_X1_sortAt lets (x_X1_step_8 len sen lets))), (0, .ref (q 1))]) hx hb dX1_step_73 rfl hl (by decide) rfl (fun ls hl => ?_)
    have K74 : ∀ (H : Heap) (locs : List Loc) (ls : Array Slot), va_P D vwCl (wScr cI q len ncl spe sru (x_X1_step_8 len sen lets) (x_X1_step_74 len sen lets) lets wrds nums) H → va_D A (wScr cI q len ncl spe sru (x_X1_step_8 len sen lets) (x_X1_step_74 len sen lets) lets wrds nums) → va_S A s.heap H locs → lv_has ls 2 [(0, .ref (q 1)), (1, .int (f_X1_sortAt lets (x_X1_step_8 len sen lets)))] → W p l e rm_X1_step s m args below meth c H locs 0 0 Q (F0 m 114 ls []) := by
      intro H locs ls hP hD hS hl
      have hf : (f_X1_step len sen lets) = ((x_X1_step_8 len sen lets), (x_X1_step_74 len sen lets)) := rfl
      rw [hf] at hret
      dsimp only at hret
      exact hret _ _ _ _ hP hS dX1_step_114
    have lp74 : ∀ (k74 : Nat) (y74_sen : Int32), (len.toInt - y74_sen.toInt).toNat < k74 → lo_X1_step_74 len sen lets k74 y74_sen = (x_X1_step_74 len sen lets) → ∀ (H : Heap) (locs : List Loc) (ls : Array Slot), va_P D vwCl (wScr cI q len ncl spe sru (x_X1_step_8 len sen lets) y74_sen lets wrds nums) H → va_D A (wScr cI q len ncl spe sru (x_X1_step_8 len sen lets) y74_sen lets wrds nums) → va_S A s.heap H locs → lv_has ls 2 [(0, .ref (q 1)), (1, .int (f_X1_sortAt lets (x_X1_step_8 len sen lets)))] → W p l e rm_X1_step s m args below meth c H locs 0 0 Q (F0 m 74 ls []) := by
      intro k74
      induction k74 with
      | zero =>
        intro y74_sen hm74 ea74 H locs ls hP hD hS hl
        exact absurd hm74 (Nat.not_lt_zero _)
      | succ k74 ih74 =>
        intro y74_sen hm74 ea74 H locs ls hP hD hS hl
        refine lv_aload_n hx hb dX1_step_74 rfl (lv_at hl 0 rfl) ?_
        refine va_get (D := D) (ci := 1) (v := .int y74_sen) (C := RX1) (T := TX1) (N := 9) hx hb hts inlX1 hown hK hP 0 rfl rfl 8 (by decide) (kw hts kin_7 10 rfl) (fun _ h9 => h9) rfl dX1_step_75 ?_
        refine lv_aload_n hx hb dX1_step_78 rfl (lv_at hl 0 rfl) ?_
        refine va_get (D := D) (ci := 1) (v := .int len) (C := RX1) (T := TX1) (N := 9) hx hb hts inlX1 hown hK hP 0 rfl rfl 3 (by decide) (kw hts kin_5 16 rfl) (fun _ h9 => h9) rfl dX1_step_79 ?_
        refine lv_icmp_ge (tgt := 114) hx hb dX1_step_82 (by decide) (fun c_82 => ?_) (fun c_82 => ?_)
        · skip
          have hx74 : (x_X1_step_74 len sen lets) = y74_sen := (ea74).symm.trans (if_pos c_82)
          rw [hx74] at K74
          exact K74 _ _ _ hP hD hS (lv_sub hl [0, 1] rfl)
        · skip
          refine lv_iload_n hx hb dX1_step_85 rfl (lv_at hl 1 rfl) ?_
          refine lv_if_eq (tgt := 114) hx hb dX1_step_86 (by decide) (fun c_86 => ?_) (fun c_86 => ?_)
          · skip
            have hx74 : (x_X1_step_74 len sen lets) = y74_sen := (ea74).symm.trans ((if_neg c_82).trans (if_pos c_86))
            rw [hx74] at K74
            exact K74 _ _ _ hP hD hS (lv_sub hl [0, 1] rfl)
          · skip
            refine lv_aload_n hx hb dX1_step_89 rfl (lv_at hl 0 rfl) ?_
            refine lv_aload_n hx hb dX1_step_90 rfl (lv_at hl 0 rfl) ?_
            refine va_get (D := D) (ci := 1) (v := .int y74_sen) (C := RX1) (T := TX1) (N := 9) hx hb hts inlX1 hown hK hP 0 rfl rfl 8 (by decide) (kw hts kin_7 10 rfl) (fun _ h9 => h9) rfl dX1_step_91 ?_
            refine kvi (As := [.int y74_sen]) (rest := []) (q0 := 0) (ci := 1) ⟨hx, hb, hml, hown, hts⟩ hP hK hD hS hA hE (k_X1_sortAt l D cI cZ adK adV q len ncl spe sru (x_X1_step_8 len sen lets) y74_sen lets wrds nums y74_sen) (kcv hts kM_X1_sortAt (kin_7 _ (List.mem_of_getElem? (i := 20) rfl)) ⟨rfl, rfl⟩ ⟨Nat.le_of_ble_eq_true rfl, Nat.le_of_ble_eq_true rfl⟩) kBl_G kOk_G (wScr cI q len ncl spe sru (x_X1_step_8 len sen lets) y74_sen lets wrds nums) (cut_scr_scr cI q len ncl spe sru (x_X1_step_8 len sen lets) y74_sen lets wrds nums len ncl spe sru (x_X1_step_8 len sen lets) y74_sen lets wrds nums).1 (cut_scr_scr cI q len ncl spe sru (x_X1_step_8 len sen lets) y74_sen lets wrds nums len ncl spe sru (x_X1_step_8 len sen lets) y74_sen lets wrds nums).2 rfl rfl rfl rfl hl.1 rfl (Nat.le_of_ble_eq_true rfl) dX1_step_94 (fun H locs hP hD hS => ?_)
            refine lv_iload_n hx hb dX1_step_97 rfl (lv_at hl 1 rfl) ?_
            refine lv_icmp_ne (tgt := 114) hx hb dX1_step_98 (by decide) (fun c_98 => ?_) (fun c_98 => ?_)
            · skip
              have hx74 : (x_X1_step_74 len sen lets) = y74_sen := (ea74).symm.trans ((if_neg c_82).trans ((if_neg c_86).trans (if_neg c_98)))
              rw [hx74] at K74
              exact K74 _ _ _ hP hD hS (lv_sub hl [0, 1] rfl)
            · skip
              refine lv_aload_n hx hb dX1_step_101 rfl (lv_at hl 0 rfl) ?_
              refine lv_dup hx hb dX1_step_102 rfl ?_
              refine va_get (D := D) (ci := 1) (v := .int y74_sen) (C := RX1) (T := TX1) (N := 9) hx hb hts inlX1 hown hK hP 0 rfl rfl 8 (by decide) (kw hts kin_7 10 rfl) (fun _ h9 => h9) rfl dX1_step_103 ?_
              refine lv_iconst (v := 1) hx hb dX1_step_106 (by decide) ?_
              refine lv_iadd hx hb dX1_step_107 ?_
              refine va_put (D := D) (ci := 1) (v := .int (y74_sen + 1)) (ty := .int) (C := RX1) (T := TX1) (N := 9) hx hb hts inlX1 tyX1 tyX1_ok nmX1 hown hK hP hD hS 0 rfl rfl 8 (by decide) (kw hts kin_7 10 rfl) (fun _ h9 => h9) rfl (by decide +kernel) rfl rfl (Nat.le_of_ble_eq_true rfl) dX1_step_108 (fun H locs hP hD hS => ?_)
              have hP : va_P D vwCl (wScr cI q len ncl spe sru (x_X1_step_8 len sen lets) (y74_sen + 1) lets wrds nums) H := hP
              have hD : va_D A (wScr cI q len ncl spe sru (x_X1_step_8 len sen lets) (y74_sen + 1) lets wrds nums) := hD
              refine lv_goto (tgt := 74) hx hb dX1_step_111 (by decide) ?_
              have hb74 : lo_X1_step_74 len sen lets (k74 + 1) y74_sen = lo_X1_step_74 len sen lets k74 (y74_sen + 1) := ((if_neg c_82).trans ((if_neg c_86).trans (if_pos c_98)))
              exact ih74 (y74_sen + 1) (kmu hm74 c_82) (hb74.symm.trans ea74) _ _ _ hP hD hS (lv_sub hl [0, 1] rfl)
    exact lp74 (((len.toInt - (if ((x_X1_step_8 len sen lets) + 1) < len then ((x_X1_step_8 len sen lets) + 1) else len).toInt).toNat) + 1) (if ((x_X1_step_8 len sen lets) + 1) < len then ((x_X1_step_8 len sen lets) + 1) else len) (Nat.lt_succ_self _) rfl _ _ _ hP hD hS (lv_sub hl [1, 0] rfl)
  have lp8 : ∀ (k8 : Nat) (y8_sbe : Int32), (len.toInt - y8_sbe.toInt).toNat < k8 → lo_X1_step_8 len lets k8 y8_sbe = (x_X1_step_8 len sen lets) → ∀ (H : Heap) (locs : List Loc) (ls : Array Slot), va_P D vwCl (wScr cI q len ncl spe sru y8_sbe sen lets wrds nums) H → va_D A (wScr cI q len ncl spe sru y8_sbe sen lets wrds nums) → va_S A s.heap H locs → lv_has ls 2 [(0, .ref (q 1))] → W p l e rm_X1_step s m args below meth c H locs 0 0 Q (F0 m 8 ls []) := by
    intro k8
    induction k8 with
    | zero =>
      intro y8_sbe hm8 ea8 H locs ls hP hD hS hl
      exact absurd hm8 (Nat.not_lt_zero _)
    | succ k8 ih8 =>
      intro y8_sbe hm8 ea8 H locs ls hP hD hS hl
      refine lv_aload_n hx hb dX1_step_8 rfl (lv_at hl 0 rfl) ?_
      refine va_get (D := D) (ci := 1) (v := .int y8_sbe) (C := RX1) (T := TX1) (N := 9) hx hb hts inlX1 hown hK hP 0 rfl rfl 7 (by decide) (kw hts kin_7 11 rfl) (fun _ h9 => h9) rfl dX1_step_9 ?_
      refine lv_aload_n hx hb dX1_step_12 rfl (lv_at hl 0 rfl) ?_
      refine va_get (D := D) (ci := 1) (v := .int len) (C := RX1) (T := TX1) (N := 9) hx hb hts inlX1 hown hK hP 0 rfl rfl 3 (by decide) (kw hts kin_5 16 rfl) (fun _ h9 => h9) rfl dX1_step_13 ?_
      refine lv_icmp_ge (tgt := 48) hx hb dX1_step_16 (by decide) (fun c_16 => ?_) (fun c_16 => ?_)
      · skip
        have hx8 : (x_X1_step_8 len sen lets) = y8_sbe := (ea8).symm.trans (if_pos c_16)
        rw [hx8] at K8
        exact K8 _ _ _ hP hD hS (lv_sub hl [0] rfl)
      · skip
        refine lv_aload_n hx hb dX1_step_19 rfl (lv_at hl 0 rfl) ?_
        refine va_get (D := D) (ci := 1) (v := .ref (q 2)) (C := RX1) (T := TX1) (N := 9) hx hb hts inlX1 hown hK hP 0 rfl rfl 0 (by decide) (kw hts kin_2 19 rfl) (fun _ h9 => h9) rfl dX1_step_20 ?_
        refine lv_aload_n hx hb dX1_step_23 rfl (lv_at hl 0 rfl) ?_
        refine va_get (D := D) (ci := 1) (v := .int y8_sbe) (C := RX1) (T := TX1) (N := 9) hx hb hts inlX1 hown hK hP 0 rfl rfl 7 (by decide) (kw hts kin_7 11 rfl) (fun _ h9 => h9) rfl dX1_step_24 ?_
        refine kvi (As := [.int y8_sbe]) (rest := []) (q0 := 0) (ci := 0) ⟨hx, hb, hml, hown, hts⟩ hP hK hD hS hA hE (k_X0_at l D cI cZ adK adV (q 2) (q 3) 160 lets y8_sbe (by decide)) (kcv hts kM_X0_at (kin_7 _ (List.mem_of_getElem? (i := 16) rfl)) ⟨rfl, rfl⟩ ⟨Nat.le_of_ble_eq_true rfl, Nat.le_of_ble_eq_true rfl⟩) kBl_G kOk_G (wScr cI q len ncl spe sru y8_sbe sen lets wrds nums) (cut_scr_row_1_2 cI q len ncl spe sru y8_sbe sen lets wrds nums lets).1 (cut_scr_row_1_2 cI q len ncl spe sru y8_sbe sen lets wrds nums lets).2 rfl rfl rfl rfl hl.1 rfl (Nat.le_of_ble_eq_true rfl) dX1_step_27 (fun H locs hP hD hS => ?_)
        refine lv_bipush (v := 32) hx hb dX1_step_30 (by decide) ?_
        refine lv_icmp_ne (tgt := 48) hx hb dX1_step_32 (by decide) (fun c_32 => ?_) (fun c_32 => ?_)
        · skip
          have hx8 : (x_X1_step_8 len sen lets) = y8_sbe := (ea8).symm.trans ((if_neg c_16).trans (if_neg c_32))
          rw [hx8] at K8
          exact K8 _ _ _ hP hD hS (lv_sub hl [0] rfl)
        · skip
          refine lv_aload_n hx hb dX1_step_35 rfl (lv_at hl 0 rfl) ?_
          refine lv_dup hx hb dX1_step_36 rfl ?_
          refine va_get (D := D) (ci := 1) (v := .int y8_sbe) (C := RX1) (T := TX1) (N := 9) hx hb hts inlX1 hown hK hP 0 rfl rfl 7 (by decide) (kw hts kin_7 11 rfl) (fun _ h9 => h9) rfl dX1_step_37 ?_
          refine lv_iconst (v := 1) hx hb dX1_step_40 (by decide) ?_
          refine lv_iadd hx hb dX1_step_41 ?_
          refine va_put (D := D) (ci := 1) (v := .int (y8_sbe + 1)) (ty := .int) (C := RX1) (T := TX1) (N := 9) hx hb hts inlX1 tyX1 tyX1_ok nmX1 hown hK hP hD hS 0 rfl rfl 7 (by decide) (kw hts kin_7 11 rfl) (fun _ h9 => h9) rfl (by decide +kernel) rfl rfl (Nat.le_of_ble_eq_true rfl) dX1_step_42 (fun H locs hP hD hS => ?_)
          have hP : va_P D vwCl (wScr cI q len ncl spe sru (y8_sbe + 1) sen lets wrds nums) H := hP
          have hD : va_D A (wScr cI q len ncl spe sru (y8_sbe + 1) sen lets wrds nums) := hD
          refine lv_goto (tgt := 8) hx hb dX1_step_45 (by decide) ?_
          have hb8 : lo_X1_step_8 len lets (k8 + 1) y8_sbe = lo_X1_step_8 len lets k8 (y8_sbe + 1) := ((if_neg c_16).trans (if_pos c_32))
          exact ih8 (y8_sbe + 1) (kmu hm8 c_16) (hb8.symm.trans ea8) _ _ _ hP hD hS (lv_sub hl [0] rfl)
  exact lp8 (((len.toInt - sen.toInt).toNat) + 1) sen (Nat.lt_succ_self _) rfl _ _ _ hP hD hS (lv_sub hl [0] rfl)
