def v_X7_day_61_0 (i : Nat) (y31_w : Nat → Int32) : Int32 := if 9 ≤ (y31_w ((1 + (nI i)).toNatClampNeg)) then 9 else ((y31_w ((1 + (nI i)).toNatClampNeg)) + 1)
def nx_X7_day_31 (i : Nat) (y31_w : Nat → Int32) : (Nat → Int32) := (upd y31_w ((1 + (nI i)).toNatClampNeg) (v_X7_day_61_0 i y31_w))
def x_X7_day_31 (w : Nat → Int32) (told : Nat → Int32) (undoes : Int32) : (Nat → Int32) := lp (fun iz z => nx_X7_day_31 iz z) (upd ((f_X7_minds w undoes).1) 0 ((((f_X7_minds w undoes).1) 0) + 1)) ((6 * (told 1)).toNatClampNeg)
def f_X7_day (w : Nat → Int32) (told : Nat → Int32) (undoes : Int32) : Int32 × (Nat → Int32) × Int32 := if (w 0) = 999 then ((-5), w, undoes) else (((x_X7_day_31 w told undoes) 0), (x_X7_day_31 w told undoes), (f_X7_minds w undoes).2)
abbrev rm_X7_day : Room := { frames := 2, cells := 0, slots := 0, locals := 44 }
set_option maxRecDepth 100000 in
set_option maxHeartbeats 4000000 in
theorem k_X7_day (l : Launch) (D : va_G) (cI cZ : ClassId) (u : Nat → Nat) (w : Nat → Int32) (told : Nat → Int32) (read : Nat → Int32) (isK : Nat → Int32) (undoes : Int32) (text : Nat → Int32) (texted : Int32) (seen : Int32) (seS : Nat → Int32) (seB : Nat → Int32) (seP : Nat → Int32) (at_ : Int32) (start : Int32) (clauses : Int32) (number : Int32) (word : Int64) (hT1 : kb (told 1) 0 7) (h_undoes : kb undoes 0 9) : CI l D (kTy cI cZ) kT yX7_day (.code yX7_day cX7_day 2 (some .int) :: wsL_law) rm_X7_day [.ref (u 0)] (wM cI cZ u w told read isK undoes text texted seen seS seB seP at_ start clauses number word) (wM cI cZ u ((f_X7_day w told undoes).2.1) told read isK ((f_X7_day w told undoes).2.2) text texted seen seS seB seP at_ start clauses number word) ((f_X7_day w told undoes).1) := by
  refine CI.of (cc := cX7_day) (maxL := 2) (ty := .int) (by decide) rfl (Nat.le_of_ble_eq_true rfl) rfl ?_
  intro p e s m args below meth c A Q ls hx hb hml hts0 hown hA hP hK hD hE hl hret
  have hts : ∀ w ∈ wsL_law, w.before args s = true := fun w h => hts0 w (List.mem_cons_of_mem _ h)
  clear hts0
  have hown : s.vm.findClass RX7 = some m.cls := hown
  have hl : lv_has ls 2 [(0, .ref (u 0))] := hl
  have hS : va_S A s.heap s.heap [] := va_S.rf
  revert hP hS
  suffices hgo : ∀ (H : Heap) (locs : List Loc), va_P D vwCl (wM cI cZ u w told read isK undoes text texted seen seS seB seP at_ start clauses number word) H → va_S A s.heap H locs → W p l e rm_X7_day s m args below meth c H locs 0 0 Q (F0 m 0 ls []) from fun a b => hgo _ _ a b
  intro H locs hP hS
  refine lv_aload_n hx hb dX7_day_0 rfl (lv_at hl 0 rfl) ?_
  refine va_get (D := D) (ci := 7) (v := .ref (u 1)) (C := RX7) (T := TX7) (N := 16) hx hb hts inlX7 hown hK hP 0 rfl rfl 0 (by decide) (kw hts kin_4 22 rfl) (fun _ h9 => h9) rfl dX7_day_1 ?_
  refine lv_iconst (v := 0) hx hb dX7_day_4 (by decide) ?_
  refine va_iald (cA := cI) (n := 1020) (f := w) hx hb hK hP 1 0 rfl rfl ((kb.lit 0).in (by decide) (by decide)) dX7_day_5 ?_
  show W p l e rm_X7_day s m args below meth c H locs 0 0 Q (F0 m 6 ls [.int (w 0)])
  refine lv_sipush (v := 999) hx hb dX7_day_6 (by decide) ?_
  refine lv_icmp_ne (tgt := 15) hx hb dX7_day_9 (by decide) (fun c_9 => ?_) (fun c_9 => ?_)
  · skip
    refine lv_aload_n hx hb dX7_day_15 rfl (lv_at hl 0 rfl) ?_
    refine kvv (As := []) (rest := []) (q0 := 0) (ci := 7) ⟨hx, hb, hml, hown, hts⟩ hP hK hD hS hA hE (k_X7_minds l D cI cZ  u w told read isK undoes text texted seen seS seB seP at_ start clauses number word (h_undoes.wide (by decide) (by decide))) (kcv hts kM_X7_minds (kin_24 _ (List.mem_of_getElem? (i := 15) rfl)) ⟨rfl, rfl⟩ ⟨Nat.le_of_ble_eq_true rfl, Nat.le_of_ble_eq_true rfl⟩) kBl_T kOk_T (wM cI cZ u ((f_X7_minds w undoes).1) told read isK ((f_X7_minds w undoes).2) text texted seen seS seB seP at_ start clauses number word) (cut_m_m cI cZ u w told read isK undoes text texted seen seS seB seP at_ start clauses number word ((f_X7_minds w undoes).1) told read isK ((f_X7_minds w undoes).2) text texted seen seS seB seP at_ start clauses number word).1 (cut_m_m cI cZ u w told read isK undoes text texted seen seS seB seP at_ start clauses number word ((f_X7_minds w undoes).1) told read isK ((f_X7_minds w undoes).2) text texted seen seS seB seP at_ start clauses number word).2 rfl rfl rfl rfl hl.1 rfl (Nat.le_of_ble_eq_true rfl) dX7_day_16 (fun H locs hP hD hS => ?_)
    refine lv_aload_n hx hb dX7_day_19 rfl (lv_at hl 0 rfl) ?_
    refine va_get (D := D) (ci := 7) (v := .ref (u 1)) (C := RX7) (T := TX7) (N := 16) hx hb hts inlX7 hown hK hP 0 rfl rfl 0 (by decide) (kw hts kin_4 22 rfl) (fun _ h9 => h9) rfl dX7_day_20 ?_
    refine lv_iconst (v := 0) hx hb dX7_day_23 (by decide) ?_
    refine lv_dup2_11 hx hb dX7_day_24 rfl rfl ?_
    refine va_iald (cA := cI) (n := 1020) (f := (f_X7_minds w undoes).1) hx hb hK hP 1 0 rfl rfl ((kb.lit 0).in (by decide) (by decide)) dX7_day_25 ?_
    show W p l e rm_X7_day s m args below meth c H locs 0 0 Q (F0 m 26 ls [.int (((f_X7_minds w undoes).1) 0), .int 0, .ref (u 1)])
    refine lv_iconst (v := 1) hx hb dX7_day_26 (by decide) ?_
    refine lv_iadd hx hb dX7_day_27 ?_
    refine va_iast (cA := cI) (n := 1020) (f := (f_X7_minds w undoes).1) hx hb hK hP hD hS 1 0 rfl rfl ((kb.lit 0).in (by decide) (by decide)) dX7_day_28 (fun H locs hP hD hS => ?_)
    have hP : va_P D vwCl (wM cI cZ u (upd ((f_X7_minds w undoes).1) 0 ((((f_X7_minds w undoes).1) 0) + 1)) told read isK ((f_X7_minds w undoes).2) text texted seen seS seB seP at_ start clauses number word) H := hP
    have hD : va_D A (wM cI cZ u (upd ((f_X7_minds w undoes).1) 0 ((((f_X7_minds w undoes).1) 0) + 1)) told read isK ((f_X7_minds w undoes).2) text texted seen seS seB seP at_ start clauses number word) := hD
    refine lv_iconst (v := 0) hx hb dX7_day_29 (by decide) ?_
    refine lv_istore_n (lv' := [(1, .int 0), (0, .ref (u 0))]) hx hb dX7_day_30 rfl hl (by decide) rfl (fun ls hl => ?_)
    have lp31 : ∀ (k31 i : Nat) (y31_w : Nat → Int32), i + k31 = (6 * (told 1)).toNatClampNeg → y31_w = lp (fun iz z => nx_X7_day_31 iz z) (upd ((f_X7_minds w undoes).1) 0 ((((f_X7_minds w undoes).1) 0) + 1)) i → ∀ (H : Heap) (locs : List Loc) (ls : Array Slot), va_P D vwCl (wM cI cZ u y31_w told read isK ((f_X7_minds w undoes).2) text texted seen seS seB seP at_ start clauses number word) H → va_D A (wM cI cZ u y31_w told read isK ((f_X7_minds w undoes).2) text texted seen seS seB seP at_ start clauses number word) → va_S A s.heap H locs → lv_has ls 2 [(0, .ref (u 0)), (1, .int (nI i))] → W p l e rm_X7_day s m args below meth c H locs 0 0 Q (F0 m 31 ls []) := by
      intro k31
      induction k31 with
      | zero =>
        intro i y31_w hi31 ea31 H locs ls hP hD hS hl
        have hi31 : (6 * (told 1)).toNatClampNeg = i := by omega
        subst hi31
        have ea31 : y31_w = (x_X7_day_31 w told undoes) := ea31
        subst ea31
        refine lv_iload_n hx hb dX7_day_31 rfl (lv_at hl 1 rfl) ?_
        refine lv_bipush (v := 6) hx hb dX7_day_32 (by decide) ?_
        refine lv_aload_n hx hb dX7_day_34 rfl (lv_at hl 0 rfl) ?_
        refine va_get (D := D) (ci := 7) (v := .ref (u 2)) (C := RX7) (T := TX7) (N := 16) hx hb hts inlX7 hown hK hP 0 rfl rfl 1 (by decide) (kw hts kin_4 23 rfl) (fun _ h9 => h9) rfl dX7_day_35 ?_
        refine lv_iconst (v := 1) hx hb dX7_day_38 (by decide) ?_
        refine va_iald (cA := cI) (n := 59) (f := told) hx hb hK hP 2 0 rfl rfl ((kb.lit 1).in (by decide) (by decide)) dX7_day_39 ?_
        show W p l e rm_X7_day s m args below meth c H locs 0 0 Q (F0 m 40 ls [.int (told 1), .int 6, .int (nI ((6 * (told 1)).toNatClampNeg))])
        refine lv_imul hx hb dX7_day_40 ?_
        refine lv_icmp_ge (tgt := 86) hx hb dX7_day_41 (by decide) (fun _ => ?_) (fun c_41 => absurd (kle_clamp _) c_41)
        refine lv_aload_n hx hb dX7_day_86 rfl (lv_at hl 0 rfl) ?_
        refine va_get (D := D) (ci := 7) (v := .ref (u 1)) (C := RX7) (T := TX7) (N := 16) hx hb hts inlX7 hown hK hP 0 rfl rfl 0 (by decide) (kw hts kin_4 22 rfl) (fun _ h9 => h9) rfl dX7_day_87 ?_
        refine lv_iconst (v := 0) hx hb dX7_day_90 (by decide) ?_
        refine va_iald (cA := cI) (n := 1020) (f := (x_X7_day_31 w told undoes)) hx hb hK hP 1 0 rfl rfl ((kb.lit 0).in (by decide) (by decide)) dX7_day_91 ?_
        show W p l e rm_X7_day s m args below meth c H locs 0 0 Q (F0 m 92 ls [.int ((x_X7_day_31 w told undoes) 0)])
        have hf : (f_X7_day w told undoes) = (((x_X7_day_31 w told undoes) 0), (x_X7_day_31 w told undoes), (f_X7_minds w undoes).2) := (if_neg c_9)
        rw [hf] at hret
        dsimp only at hret
        exact hret _ _ _ _ hP hS dX7_day_92
      | succ k31 ih31 =>
        intro i y31_w hi31 ea31 H locs ls hP hD hS hl
        have hlt31 : i < (6 * (told 1)).toNatClampNeg := by omega
        refine lv_iload_n hx hb dX7_day_31 rfl (lv_at hl 1 rfl) ?_
        refine lv_bipush (v := 6) hx hb dX7_day_32 (by decide) ?_
        refine lv_aload_n hx hb dX7_day_34 rfl (lv_at hl 0 rfl) ?_
        refine va_get (D := D) (ci := 7) (v := .ref (u 2)) (C := RX7) (T := TX7) (N := 16) hx hb hts inlX7 hown hK hP 0 rfl rfl 1 (by decide) (kw hts kin_4 23 rfl) (fun _ h9 => h9) rfl dX7_day_35 ?_
        refine lv_iconst (v := 1) hx hb dX7_day_38 (by decide) ?_
        refine va_iald (cA := cI) (n := 59) (f := told) hx hb hK hP 2 0 rfl rfl ((kb.lit 1).in (by decide) (by decide)) dX7_day_39 ?_
        show W p l e rm_X7_day s m args below meth c H locs 0 0 Q (F0 m 40 ls [.int (told 1), .int 6, .int (nI i)])
        refine lv_imul hx hb dX7_day_40 ?_
        refine lv_icmp_ge (tgt := 86) hx hb dX7_day_41 (by decide) (fun c_41 => absurd c_41 (klt_clamp hlt31)) (fun _ => ?_)
        refine lv_aload_n hx hb dX7_day_44 rfl (lv_at hl 0 rfl) ?_
        refine va_get (D := D) (ci := 7) (v := .ref (u 1)) (C := RX7) (T := TX7) (N := 16) hx hb hts inlX7 hown hK hP 0 rfl rfl 0 (by decide) (kw hts kin_4 22 rfl) (fun _ h9 => h9) rfl dX7_day_45 ?_
        refine lv_iconst (v := 1) hx hb dX7_day_48 (by decide) ?_
        refine lv_iload_n hx hb dX7_day_49 rfl (lv_at hl 1 rfl) ?_
        refine lv_iadd hx hb dX7_day_50 ?_
        refine lv_aload_n hx hb dX7_day_51 rfl (lv_at hl 0 rfl) ?_
        refine va_get (D := D) (ci := 7) (v := .ref (u 1)) (C := RX7) (T := TX7) (N := 16) hx hb hts inlX7 hown hK hP 0 rfl rfl 0 (by decide) (kw hts kin_4 22 rfl) (fun _ h9 => h9) rfl dX7_day_52 ?_
        refine lv_iconst (v := 1) hx hb dX7_day_55 (by decide) ?_
        refine lv_iload_n hx hb dX7_day_56 rfl (lv_at hl 1 rfl) ?_
        refine lv_iadd hx hb dX7_day_57 ?_
        refine va_iald (cA := cI) (n := 1020) (f := y31_w) hx hb hK hP 1 0 rfl rfl ((kb.add (kb.lit 1) (kloop (kb.mul (c := 6) rfl hT1) (by decide) hlt31)).in (by decide) (by decide)) dX7_day_58 ?_
        refine lv_bipush (v := 9) hx hb dX7_day_59 (by decide) ?_
        have J61 : ∀ (H : Heap) (locs : List Loc) (ls : Array Slot), va_P D vwCl (wM cI cZ u y31_w told read isK ((f_X7_minds w undoes).2) text texted seen seS seB seP at_ start clauses number word) H → va_D A (wM cI cZ u y31_w told read isK ((f_X7_minds w undoes).2) text texted seen seS seB seP at_ start clauses number word) → va_S A s.heap H locs → lv_has ls 2 [(0, .ref (u 0)), (1, .int (nI i))] → W p l e rm_X7_day s m args below meth c H locs 0 0 Q (F0 m 79 ls [.int (v_X7_day_61_0 i y31_w), .int (1 + (nI i)), .ref (u 1)]) := by
          intro H locs ls hP hD hS hl
          refine va_iast (cA := cI) (n := 1020) (f := y31_w) hx hb hK hP hD hS 1 0 rfl rfl ((kb.add (kb.lit 1) (kloop (kb.mul (c := 6) rfl hT1) (by decide) hlt31)).in (by decide) (by decide)) dX7_day_79 (fun H locs hP hD hS => ?_)
          have hP : va_P D vwCl (wM cI cZ u (upd y31_w ((1 + (nI i)).toNatClampNeg) (v_X7_day_61_0 i y31_w)) told read isK ((f_X7_minds w undoes).2) text texted seen seS seB seP at_ start clauses number word) H := hP
          have hD : va_D A (wM cI cZ u (upd y31_w ((1 + (nI i)).toNatClampNeg) (v_X7_day_61_0 i y31_w)) told read isK ((f_X7_minds w undoes).2) text texted seen seS seB seP at_ start clauses number word) := hD
          refine lv_iinc (v := (nI (i + 1))) (lv' := [(1, .int (nI (i + 1))), (0, .ref (u 0))]) hx hb dX7_day_80 hl (k := 1) rfl (nI_1 i) (by decide) rfl (fun ls hl => ?_)
          refine lv_goto (tgt := 31) hx hb dX7_day_83 (by decide) ?_
          have hb31 : nx_X7_day_31 i y31_w = (upd y31_w ((1 + (nI i)).toNatClampNeg) (v_X7_day_61_0 i y31_w)) := rfl
          have hs31 : (lp (fun iz z => nx_X7_day_31 iz z) (upd ((f_X7_minds w undoes).1) 0 ((((f_X7_minds w undoes).1) 0) + 1)) (i + 1) : (Nat → Int32)) = nx_X7_day_31 i (lp (fun iz z => nx_X7_day_31 iz z) (upd ((f_X7_minds w undoes).1) 0 ((((f_X7_minds w undoes).1) 0) + 1)) i : (Nat → Int32)) := lp_succ _ _ _
          rw [← ea31] at hs31
          exact ih31 (i + 1) (upd y31_w ((1 + (nI i)).toNatClampNeg) (v_X7_day_61_0 i y31_w)) (by omega) (hb31.symm.trans hs31.symm) _ _ _ hP hD hS (lv_sub hl [1, 0] rfl)
        refine lv_icmp_ge (tgt := 77) hx hb dX7_day_61 (by decide) (fun c_61 => ?_) (fun c_61 => ?_)
        · skip
          refine lv_bipush (v := 9) hx hb dX7_day_77 (by decide) ?_
          rw [show (v_X7_day_61_0 i y31_w) = 9 from (if_pos c_61)] at J61
          exact J61 _ _ _ hP hD hS (lv_sub hl [0, 1] rfl)
        · skip
          refine lv_aload_n hx hb dX7_day_64 rfl (lv_at hl 0 rfl) ?_
          refine va_get (D := D) (ci := 7) (v := .ref (u 1)) (C := RX7) (T := TX7) (N := 16) hx hb hts inlX7 hown hK hP 0 rfl rfl 0 (by decide) (kw hts kin_4 22 rfl) (fun _ h9 => h9) rfl dX7_day_65 ?_
          refine lv_iconst (v := 1) hx hb dX7_day_68 (by decide) ?_
          refine lv_iload_n hx hb dX7_day_69 rfl (lv_at hl 1 rfl) ?_
          refine lv_iadd hx hb dX7_day_70 ?_
          refine va_iald (cA := cI) (n := 1020) (f := y31_w) hx hb hK hP 1 0 rfl rfl ((kb.add (kb.lit 1) (kloop (kb.mul (c := 6) rfl hT1) (by decide) hlt31)).in (by decide) (by decide)) dX7_day_71 ?_
          refine lv_iconst (v := 1) hx hb dX7_day_72 (by decide) ?_
          refine lv_iadd hx hb dX7_day_73 ?_
          refine lv_goto (tgt := 79) hx hb dX7_day_74 (by decide) ?_
          rw [show (v_X7_day_61_0 i y31_w) = ((y31_w ((1 + (nI i)).toNatClampNeg)) + 1) from (if_neg c_61)] at J61
          exact J61 _ _ _ hP hD hS (lv_sub hl [0, 1] rfl)
    exact lp31 ((6 * (told 1)).toNatClampNeg) 0 (upd ((f_X7_minds w undoes).1) 0 ((((f_X7_minds w undoes).1) 0) + 1)) (Nat.zero_add _) (lp_zero _ _).symm _ _ _ hP hD hS (lv_sub hl [1, 0] rfl)
  · skip
    refine lv_bipush (v := (-5)) hx hb dX7_day_12 (by decide) ?_
    have hf : (f_X7_day w told undoes) = ((-5), w, undoes) := (if_pos c_9)
    rw [hf] at hret
    dsimp only at hret
    exact hret _ _ _ _ hP hS dX7_day_14
