def lo_X1_numberHere_45 (sen : Int32) (lets : Nat → Int32) : Nat → Int32 → Int32 → Int32
  | 0, x45_1, x45_2 => default
  | k45 + 1, x45_1, x45_2 => if sen ≤ x45_2 then x45_1 else (lo_X1_numberHere_45 sen lets k45 (((x45_1 * 10) + (f_X0_at 160 lets x45_2)) - 48) (x45_2 + 1))
def f_X1_numberHere (len : Int32) (sbe : Int32) (sen : Int32) (lets : Nat → Int32) : Int32 := if len ≤ sbe then (-1) else (if (f_X1_sortAt lets sbe) = 2 then (if (sen - sbe) ≤ 2 then (lo_X1_numberHere_45 sen lets (((sen.toInt - sbe.toInt).toNat) + 1) 0 sbe) else (-1)) else (-1))
abbrev rm_X1_numberHere : Room := { frames := 2, cells := 0, slots := 0, locals := 43 }
set_option maxRecDepth 100000 in
theorem cut_scr_scr (cI : ClassId) (q : Nat → Nat) (len : Int32) (ncl : Int32) (spe : Int32) (sru : Int32) (sbe : Int32) (sen : Int32) (lets : Nat → Int32) (wrds : Nat → Int32) (nums : Nat → Int32) (n_len : Int32) (n_ncl : Int32) (n_spe : Int32) (n_sru : Int32) (n_sbe : Int32) (n_sen : Int32) (n_lets : Nat → Int32) (n_wrds : Nat → Int32) (n_nums : Nat → Int32) : kCut (wScr cI q len ncl spe sru sbe sen lets wrds nums) (wScr cI q len ncl spe sru sbe sen lets wrds nums) (wScr cI q n_len n_ncl n_spe n_sru n_sbe n_sen n_lets n_wrds n_nums) (wScr cI q n_len n_ncl n_spe n_sru n_sbe n_sen n_lets n_wrds n_nums) [] [0, 1, 2, 3, 4, 5, 6] [] [0, 1, 2, 3, 4, 5, 6] [q 1, q 2, q 3, q 4, q 5, q 6, q 7] ∧ kNd [0, 1, 2, 3, 4, 5, 6] [] [0, 1, 2, 3, 4, 5, 6] = true := ⟨⟨rfl, rfl, ⟨rfl, rfl⟩, rfl⟩, by decide +kernel⟩
set_option maxRecDepth 100000 in
set_option maxHeartbeats 4000000 in
theorem k_X1_numberHere (l : Launch) (D : va_G) (cI cZ : ClassId) (adK adV : Nat → Nat) (q : Nat → Nat) (len : Int32) (ncl : Int32) (spe : Int32) (sru : Int32) (sbe : Int32) (sen : Int32) (lets : Nat → Int32) (wrds : Nat → Int32) (nums : Nat → Int32) : CI l D (kTy cI cZ) (kG adK adV) yX1_numberHere (.code yX1_numberHere cX1_numberHere 3 (some .int) :: wsL_law) rm_X1_numberHere [.ref (q 1)] (wScr cI q len ncl spe sru sbe sen lets wrds nums) (wScr cI q len ncl spe sru sbe sen lets wrds nums) (f_X1_numberHere len sbe sen lets) := by
  refine CI.of (cc := cX1_numberHere) (maxL := 3) (ty := .int) (by decide) rfl (Nat.le_of_ble_eq_true rfl) rfl ?_
  intro p e s m args below meth c A Q ls hx hb hml hts0 hown hA hP hK hD hE hl hret
  have hts : ∀ w ∈ wsL_law, w.before args s = true := fun w h => hts0 w (List.mem_cons_of_mem _ h)
  clear hts0
  have hown : s.vm.findClass RX1 = some m.cls := hown
  have hl : lv_has ls 3 [(0, .ref (q 1))] := hl
  have hS : va_S A s.heap s.heap [] := va_S.rf
  revert hP hS
  suffices hgo : ∀ (H : Heap) (locs : List Loc), va_P D vwCl (wScr cI q len ncl spe sru sbe sen lets wrds nums) H → va_S A s.heap H locs → W p l e rm_X1_numberHere s m args below meth c H locs 0 0 Q (F0 m 0 ls []) from fun a b => hgo _ _ a b
  intro H locs hP hS
  refine lv_aload_n hx hb dX1_numberHere_0 rfl (lv_at hl 0 rfl) ?_
  refine va_get (D := D) (ci := 1) (v := .int sbe) (C := RX1) (T := TX1) (N := 9) hx hb hts inlX1 hown hK hP 0 rfl rfl 7 (by decide) (kw hts kin_7 11 rfl) (fun _ h9 => h9) rfl dX1_numberHere_1 ?_
  refine lv_aload_n hx hb dX1_numberHere_4 rfl (lv_at hl 0 rfl) ?_
  refine va_get (D := D) (ci := 1) (v := .int len) (C := RX1) (T := TX1) (N := 9) hx hb hts inlX1 hown hK hP 0 rfl rfl 3 (by decide) (kw hts kin_5 16 rfl) (fun _ h9 => h9) rfl dX1_numberHere_5 ?_
  refine lv_icmp_ge (tgt := 36) hx hb dX1_numberHere_8 (by decide) (fun c_8 => ?_) (fun c_8 => ?_)
  · skip
    refine lv_iconst (v := (-1)) hx hb dX1_numberHere_36 (by decide) ?_
    have hf : (f_X1_numberHere len sbe sen lets) = (-1) := (if_pos c_8)
    rw [hf] at hret
    exact hret _ _ _ _ hP hS dX1_numberHere_37
  · skip
    refine lv_aload_n hx hb dX1_numberHere_11 rfl (lv_at hl 0 rfl) ?_
    refine lv_aload_n hx hb dX1_numberHere_12 rfl (lv_at hl 0 rfl) ?_
    refine va_get (D := D) (ci := 1) (v := .int sbe) (C := RX1) (T := TX1) (N := 9) hx hb hts inlX1 hown hK hP 0 rfl rfl 7 (by decide) (kw hts kin_7 11 rfl) (fun _ h9 => h9) rfl dX1_numberHere_13 ?_
    refine kvi (As := [.int sbe]) (rest := []) (q0 := 0) (ci := 1) ⟨hx, hb, hml, hown, hts⟩ hP hK hD hS hA hE (k_X1_sortAt l D cI cZ adK adV q len ncl spe sru sbe sen lets wrds nums sbe) (kcv hts kM_X1_sortAt (kin_7 _ (List.mem_of_getElem? (i := 20) rfl)) ⟨rfl, rfl⟩ ⟨Nat.le_of_ble_eq_true rfl, Nat.le_of_ble_eq_true rfl⟩) kBl_G kOk_G (wScr cI q len ncl spe sru sbe sen lets wrds nums) (cut_scr_scr cI q len ncl spe sru sbe sen lets wrds nums len ncl spe sru sbe sen lets wrds nums).1 (cut_scr_scr cI q len ncl spe sru sbe sen lets wrds nums len ncl spe sru sbe sen lets wrds nums).2 rfl rfl rfl rfl hl.1 rfl (Nat.le_of_ble_eq_true rfl) dX1_numberHere_16 (fun H locs hP hD hS => ?_)
    refine lv_iconst (v := 2) hx hb dX1_numberHere_19 (by decide) ?_
    refine lv_icmp_ne (tgt := 36) hx hb dX1_numberHere_20 (by decide) (fun c_20 => ?_) (fun c_20 => ?_)
    · skip
      refine lv_iconst (v := (-1)) hx hb dX1_numberHere_36 (by decide) ?_
      have hf : (f_X1_numberHere len sbe sen lets) = (-1) := ((if_neg c_8).trans (if_neg c_20))
      rw [hf] at hret
      exact hret _ _ _ _ hP hS dX1_numberHere_37
    · skip
      refine lv_aload_n hx hb dX1_numberHere_23 rfl (lv_at hl 0 rfl) ?_
      refine va_get (D := D) (ci := 1) (v := .int sen) (C := RX1) (T := TX1) (N := 9) hx hb hts inlX1 hown hK hP 0 rfl rfl 8 (by decide) (kw hts kin_7 10 rfl) (fun _ h9 => h9) rfl dX1_numberHere_24 ?_
      refine lv_aload_n hx hb dX1_numberHere_27 rfl (lv_at hl 0 rfl) ?_
      refine va_get (D := D) (ci := 1) (v := .int sbe) (C := RX1) (T := TX1) (N := 9) hx hb hts inlX1 hown hK hP 0 rfl rfl 7 (by decide) (kw hts kin_7 11 rfl) (fun _ h9 => h9) rfl dX1_numberHere_28 ?_
      refine lv_isub hx hb dX1_numberHere_31 ?_
      refine lv_iconst (v := 2) hx hb dX1_numberHere_32 (by decide) ?_
      refine lv_icmp_le (tgt := 38) hx hb dX1_numberHere_33 (by decide) (fun c_33 => ?_) (fun c_33 => ?_)
      · skip
        refine lv_iconst (v := 0) hx hb dX1_numberHere_38 (by decide) ?_
        refine lv_istore_n (lv' := [(1, .int 0), (0, .ref (q 1))]) hx hb dX1_numberHere_39 rfl hl (by decide) rfl (fun ls hl => ?_)
        refine lv_aload_n hx hb dX1_numberHere_40 rfl (lv_at hl 1 rfl) ?_
        refine va_get (D := D) (ci := 1) (v := .int sbe) (C := RX1) (T := TX1) (N := 9) hx hb hts inlX1 hown hK hP 0 rfl rfl 7 (by decide) (kw hts kin_7 11 rfl) (fun _ h9 => h9) rfl dX1_numberHere_41 ?_
        refine lv_istore_n (lv' := [(2, .int sbe), (1, .int 0), (0, .ref (q 1))]) hx hb dX1_numberHere_44 rfl hl (by decide) rfl (fun ls hl => ?_)
        have lp45 : ∀ (k45 : Nat) (x45_1 : Int32) (x45_2 : Int32), (sen.toInt - x45_2.toInt).toNat < k45 → lo_X1_numberHere_45 sen lets k45 x45_1 x45_2 = (f_X1_numberHere len sbe sen lets) → ∀ (H : Heap) (locs : List Loc) (ls : Array Slot), va_P D vwCl (wScr cI q len ncl spe sru sbe sen lets wrds nums) H → va_D A (wScr cI q len ncl spe sru sbe sen lets wrds nums) → va_S A s.heap H locs → lv_has ls 3 [(0, .ref (q 1)), (1, .int x45_1), (2, .int x45_2)] → W p l e rm_X1_numberHere s m args below meth c H locs 0 0 Q (F0 m 45 ls []) := by
          intro k45
          induction k45 with
          | zero =>
            intro x45_1 x45_2 hm45 ea45 H locs ls hP hD hS hl
            exact absurd hm45 (Nat.not_lt_zero _)
          | succ k45 ih45 =>
            intro x45_1 x45_2 hm45 ea45 H locs ls hP hD hS hl
            refine lv_iload_n hx hb dX1_numberHere_45 rfl (lv_at hl 2 rfl) ?_
            refine lv_aload_n hx hb dX1_numberHere_46 rfl (lv_at hl 0 rfl) ?_
            refine va_get (D := D) (ci := 1) (v := .int sen) (C := RX1) (T := TX1) (N := 9) hx hb hts inlX1 hown hK hP 0 rfl rfl 8 (by decide) (kw hts kin_7 10 rfl) (fun _ h9 => h9) rfl dX1_numberHere_47 ?_
            refine lv_icmp_ge (tgt := 76) hx hb dX1_numberHere_50 (by decide) (fun c_50 => ?_) (fun c_50 => ?_)
            · skip
              refine lv_iload_n hx hb dX1_numberHere_76 rfl (lv_at hl 1 rfl) ?_
              have hf : (f_X1_numberHere len sbe sen lets) = x45_1 := (ea45).symm.trans (if_pos c_50)
              rw [hf] at hret
              exact hret _ _ _ _ hP hS dX1_numberHere_77
            · skip
              refine lv_iload_n hx hb dX1_numberHere_53 rfl (lv_at hl 1 rfl) ?_
              refine lv_bipush (v := 10) hx hb dX1_numberHere_54 (by decide) ?_
              refine lv_imul hx hb dX1_numberHere_56 ?_
              refine lv_aload_n hx hb dX1_numberHere_57 rfl (lv_at hl 0 rfl) ?_
              refine va_get (D := D) (ci := 1) (v := .ref (q 2)) (C := RX1) (T := TX1) (N := 9) hx hb hts inlX1 hown hK hP 0 rfl rfl 0 (by decide) (kw hts kin_2 19 rfl) (fun _ h9 => h9) rfl dX1_numberHere_58 ?_
              refine lv_iload_n hx hb dX1_numberHere_61 rfl (lv_at hl 2 rfl) ?_
              refine kvi (As := [.int x45_2]) (rest := [.int (x45_1 * 10)]) (q0 := 0) (ci := 0) ⟨hx, hb, hml, hown, hts⟩ hP hK hD hS hA hE (k_X0_at l D cI cZ adK adV (q 2) (q 3) 160 lets x45_2 (by decide)) (kcv hts kM_X0_at (kin_7 _ (List.mem_of_getElem? (i := 16) rfl)) ⟨rfl, rfl⟩ ⟨Nat.le_of_ble_eq_true rfl, Nat.le_of_ble_eq_true rfl⟩) kBl_G kOk_G (wScr cI q len ncl spe sru sbe sen lets wrds nums) (cut_scr_row_1_2 cI q len ncl spe sru sbe sen lets wrds nums lets).1 (cut_scr_row_1_2 cI q len ncl spe sru sbe sen lets wrds nums lets).2 rfl rfl rfl rfl hl.1 rfl (Nat.le_of_ble_eq_true rfl) dX1_numberHere_62 (fun H locs hP hD hS => ?_)
              refine lv_iadd hx hb dX1_numberHere_65 ?_
              refine lv_bipush (v := 48) hx hb dX1_numberHere_66 (by decide) ?_
              refine lv_isub hx hb dX1_numberHere_68 ?_
              refine lv_istore_n (lv' := [(1, .int (((x45_1 * 10) + (f_X0_at 160 lets x45_2)) - 48)), (0, .ref (q 1)), (2, .int x45_2)]) hx hb dX1_numberHere_69 rfl hl (by decide) rfl (fun ls hl => ?_)
              refine lv_iinc (v := (x45_2 + 1)) (lv' := [(2, .int (x45_2 + 1)), (1, .int (((x45_1 * 10) + (f_X0_at 160 lets x45_2)) - 48)), (0, .ref (q 1))]) hx hb dX1_numberHere_70 hl (k := 2) rfl rfl (by decide) rfl (fun ls hl => ?_)
              refine lv_goto (tgt := 45) hx hb dX1_numberHere_73 (by decide) ?_
              have hb45 : lo_X1_numberHere_45 sen lets (k45 + 1) x45_1 x45_2 = lo_X1_numberHere_45 sen lets k45 (((x45_1 * 10) + (f_X0_at 160 lets x45_2)) - 48) (x45_2 + 1) := (if_neg c_50)
              exact ih45 (((x45_1 * 10) + (f_X0_at 160 lets x45_2)) - 48) (x45_2 + 1) (kmu hm45 c_50) (hb45.symm.trans ea45) _ _ _ hP hD hS (lv_sub hl [2, 1, 0] rfl)
        exact lp45 (((sen.toInt - sbe.toInt).toNat) + 1) 0 sbe (Nat.lt_succ_self _) (Eq.symm (((if_neg c_8).trans ((if_pos c_20).trans (if_pos c_33))) : (f_X1_numberHere len sbe sen lets) = lo_X1_numberHere_45 sen lets (((sen.toInt - sbe.toInt).toNat) + 1) 0 sbe)) _ _ _ hP hD hS (lv_sub hl [2, 1, 0] rfl)
      · skip
        refine lv_iconst (v := (-1)) hx hb dX1_numberHere_36 (by decide) ?_
        have hf : (f_X1_numberHere len sbe sen lets) = (-1) := ((if_neg c_8).trans ((if_pos c_20).trans (if_neg c_33)))
        rw [hf] at hret
        exact hret _ _ _ _ hP hS dX1_numberHere_37
