def v_X7_fitsBy_30_0 (told : Nat → Int32) (strips : Int32) (parts_ : Int32) (i : Nat) : Int32 := if ((told ((51 + (nI i)).toNatClampNeg)) &&& strips) = parts_ then (1 <<< ((nI i) &&& 31)) else 0
def nx_X7_fitsBy_5 (told : Nat → Int32) (strips : Int32) (parts_ : Int32) (i : Nat) (x5_3 : Int32) : Int32 := (x5_3 ||| (v_X7_fitsBy_30_0 told strips parts_ i))
def x_X7_fitsBy_5 (told : Nat → Int32) (strips : Int32) (parts_ : Int32) : Int32 := lp (fun iz z => nx_X7_fitsBy_5 told strips parts_ iz z) 0 ((told 2).toNatClampNeg)
def f_X7_fitsBy (told : Nat → Int32) (strips : Int32) (parts_ : Int32) : Int32 := (x_X7_fitsBy_5 told strips parts_)
abbrev rm_X7_fitsBy : Room := { frames := 0, cells := 0, slots := 0, locals := 0 }
set_option maxRecDepth 100000 in
set_option maxHeartbeats 4000000 in
theorem k_X7_fitsBy (l : Launch) (D : va_G) (cI cZ : ClassId) (u : Nat → Nat) (w : Nat → Int32) (told : Nat → Int32) (read : Nat → Int32) (isK : Nat → Int32) (undoes : Int32) (text : Nat → Int32) (texted : Int32) (seen : Int32) (seS : Nat → Int32) (seB : Nat → Int32) (seP : Nat → Int32) (at_ : Int32) (start : Int32) (clauses : Int32) (number : Int32) (word : Int64) (strips : Int32) (parts_ : Int32) (hT2 : kb (told 2) 0 9) : CI l D (kTy cI cZ) kT yX7_fitsBy (.code yX7_fitsBy cX7_fitsBy 5 (some .int) :: wsL_law) rm_X7_fitsBy [.ref (u 0), .int strips, .int parts_] (wM cI cZ u w told read isK undoes text texted seen seS seB seP at_ start clauses number word) (wM cI cZ u w told read isK undoes text texted seen seS seB seP at_ start clauses number word) (f_X7_fitsBy told strips parts_) := by
  refine CI.of (cc := cX7_fitsBy) (maxL := 5) (ty := .int) (by decide) rfl (Nat.le_of_ble_eq_true rfl) rfl ?_
  intro p e s m args below meth c A Q ls hx hb hml hts0 hown hA hP hK hD hE hl hret
  have hts : ∀ w ∈ wsL_law, w.before args s = true := fun w h => hts0 w (List.mem_cons_of_mem _ h)
  clear hts0
  have hown : s.vm.findClass RX7 = some m.cls := hown
  have hl : lv_has ls 5 [(0, .ref (u 0)), (1, .int strips), (2, .int parts_)] := hl
  have hS : va_S A s.heap s.heap [] := va_S.rf
  revert hP hS
  suffices hgo : ∀ (H : Heap) (locs : List Loc), va_P D vwCl (wM cI cZ u w told read isK undoes text texted seen seS seB seP at_ start clauses number word) H → va_S A s.heap H locs → W p l e rm_X7_fitsBy s m args below meth c H locs 0 0 Q (F0 m 0 ls []) from fun a b => hgo _ _ a b
  intro H locs hP hS
  refine lv_iconst (v := 0) hx hb dX7_fitsBy_0 (by decide) ?_
  refine lv_istore_n (lv' := [(3, .int 0), (0, .ref (u 0)), (1, .int strips), (2, .int parts_)]) hx hb dX7_fitsBy_1 rfl hl (by decide) rfl (fun ls hl => ?_)
  refine lv_iconst (v := 0) hx hb dX7_fitsBy_2 (by decide) ?_
  refine lv_istore (lv' := [(4, .int 0), (3, .int 0), (0, .ref (u 0)), (1, .int strips), (2, .int parts_)]) hx hb dX7_fitsBy_3 hl (by decide) rfl (fun ls hl => ?_)
  have lp5 : ∀ (k5 i : Nat) (x5_3 : Int32), i + k5 = (told 2).toNatClampNeg → x5_3 = lp (fun iz z => nx_X7_fitsBy_5 told strips parts_ iz z) 0 i → ∀ (H : Heap) (locs : List Loc) (ls : Array Slot), va_P D vwCl (wM cI cZ u w told read isK undoes text texted seen seS seB seP at_ start clauses number word) H → va_D A (wM cI cZ u w told read isK undoes text texted seen seS seB seP at_ start clauses number word) → va_S A s.heap H locs → lv_has ls 5 [(0, .ref (u 0)), (1, .int strips), (2, .int parts_), (3, .int x5_3), (4, .int (nI i))] → W p l e rm_X7_fitsBy s m args below meth c H locs 0 0 Q (F0 m 5 ls []) := by
    intro k5
    induction k5 with
    | zero =>
      intro i x5_3 hi5 ea5 H locs ls hP hD hS hl
      have hi5 : (told 2).toNatClampNeg = i := by omega
      subst hi5
      have ea5 : x5_3 = (x_X7_fitsBy_5 told strips parts_) := ea5
      subst ea5
      refine lv_iload hx hb dX7_fitsBy_5 (lv_at hl 4 rfl) ?_
      refine lv_aload_n hx hb dX7_fitsBy_7 rfl (lv_at hl 0 rfl) ?_
      refine va_get (D := D) (ci := 7) (v := .ref (u 2)) (C := RX7) (T := TX7) (N := 16) hx hb hts inlX7 hown hK hP 0 rfl rfl 1 (by decide) (kw hts kin_4 23 rfl) (fun _ h9 => h9) rfl dX7_fitsBy_8 ?_
      refine lv_iconst (v := 2) hx hb dX7_fitsBy_11 (by decide) ?_
      refine va_iald (cA := cI) (n := 59) (f := told) hx hb hK hP 2 0 rfl rfl ((kb.lit 2).in (by decide) (by decide)) dX7_fitsBy_12 ?_
      show W p l e rm_X7_fitsBy s m args below meth c H locs 0 0 Q (F0 m 13 ls [.int (told 2), .int (nI ((told 2).toNatClampNeg))])
      refine lv_icmp_ge (tgt := 49) hx hb dX7_fitsBy_13 (by decide) (fun _ => ?_) (fun c_13 => absurd (kle_clamp _) c_13)
      refine lv_iload_n hx hb dX7_fitsBy_49 rfl (lv_at hl 3 rfl) ?_
      have hf : (f_X7_fitsBy told strips parts_) = (x_X7_fitsBy_5 told strips parts_) := rfl
      rw [hf] at hret
      exact hret _ _ _ _ hP hS dX7_fitsBy_50
    | succ k5 ih5 =>
      intro i x5_3 hi5 ea5 H locs ls hP hD hS hl
      have hlt5 : i < (told 2).toNatClampNeg := by omega
      refine lv_iload hx hb dX7_fitsBy_5 (lv_at hl 4 rfl) ?_
      refine lv_aload_n hx hb dX7_fitsBy_7 rfl (lv_at hl 0 rfl) ?_
      refine va_get (D := D) (ci := 7) (v := .ref (u 2)) (C := RX7) (T := TX7) (N := 16) hx hb hts inlX7 hown hK hP 0 rfl rfl 1 (by decide) (kw hts kin_4 23 rfl) (fun _ h9 => h9) rfl dX7_fitsBy_8 ?_
      refine lv_iconst (v := 2) hx hb dX7_fitsBy_11 (by decide) ?_
      refine va_iald (cA := cI) (n := 59) (f := told) hx hb hK hP 2 0 rfl rfl ((kb.lit 2).in (by decide) (by decide)) dX7_fitsBy_12 ?_
      show W p l e rm_X7_fitsBy s m args below meth c H locs 0 0 Q (F0 m 13 ls [.int (told 2), .int (nI i)])
      refine lv_icmp_ge (tgt := 49) hx hb dX7_fitsBy_13 (by decide) (fun c_13 => absurd c_13 (klt_clamp hlt5)) (fun _ => ?_)
      refine lv_iload_n hx hb dX7_fitsBy_16 rfl (lv_at hl 3 rfl) ?_
      refine lv_aload_n hx hb dX7_fitsBy_17 rfl (lv_at hl 0 rfl) ?_
      refine va_get (D := D) (ci := 7) (v := .ref (u 2)) (C := RX7) (T := TX7) (N := 16) hx hb hts inlX7 hown hK hP 0 rfl rfl 1 (by decide) (kw hts kin_4 23 rfl) (fun _ h9 => h9) rfl dX7_fitsBy_18 ?_
      refine lv_bipush (v := 51) hx hb dX7_fitsBy_21 (by decide) ?_
      refine lv_iload hx hb dX7_fitsBy_23 (lv_at hl 4 rfl) ?_
      refine lv_iadd hx hb dX7_fitsBy_25 ?_
      refine va_iald (cA := cI) (n := 59) (f := told) hx hb hK hP 2 0 rfl rfl ((kb.add (kb.lit 51) (kloop hT2 (by decide) hlt5)).in (by decide) (by decide)) dX7_fitsBy_26 ?_
      refine lv_iload_n hx hb dX7_fitsBy_27 rfl (lv_at hl 1 rfl) ?_
      refine lv_iand hx hb dX7_fitsBy_28 ?_
      refine lv_iload_n hx hb dX7_fitsBy_29 rfl (lv_at hl 2 rfl) ?_
      have J30 : ∀ (H : Heap) (locs : List Loc) (ls : Array Slot), va_P D vwCl (wM cI cZ u w told read isK undoes text texted seen seS seB seP at_ start clauses number word) H → va_D A (wM cI cZ u w told read isK undoes text texted seen seS seB seP at_ start clauses number word) → va_S A s.heap H locs → lv_has ls 5 [(0, .ref (u 0)), (1, .int strips), (2, .int parts_), (3, .int x5_3), (4, .int (nI i))] → W p l e rm_X7_fitsBy s m args below meth c H locs 0 0 Q (F0 m 41 ls [.int (v_X7_fitsBy_30_0 told strips parts_ i), .int x5_3]) := by
        intro H locs ls hP hD hS hl
        refine lv_ior hx hb dX7_fitsBy_41 ?_
        refine lv_istore_n (lv' := [(3, .int (x5_3 ||| (v_X7_fitsBy_30_0 told strips parts_ i))), (0, .ref (u 0)), (1, .int strips), (2, .int parts_), (4, .int (nI i))]) hx hb dX7_fitsBy_42 rfl hl (by decide) rfl (fun ls hl => ?_)
        refine lv_iinc (v := (nI (i + 1))) (lv' := [(4, .int (nI (i + 1))), (3, .int (x5_3 ||| (v_X7_fitsBy_30_0 told strips parts_ i))), (0, .ref (u 0)), (1, .int strips), (2, .int parts_)]) hx hb dX7_fitsBy_43 hl (k := 4) rfl (nI_1 i) (by decide) rfl (fun ls hl => ?_)
        refine lv_goto (tgt := 5) hx hb dX7_fitsBy_46 (by decide) ?_
        have hb5 : nx_X7_fitsBy_5 told strips parts_ i x5_3 = (x5_3 ||| (v_X7_fitsBy_30_0 told strips parts_ i)) := rfl
        have hs5 : (lp (fun iz z => nx_X7_fitsBy_5 told strips parts_ iz z) 0 (i + 1) : Int32) = nx_X7_fitsBy_5 told strips parts_ i (lp (fun iz z => nx_X7_fitsBy_5 told strips parts_ iz z) 0 i : Int32) := lp_succ _ _ _
        rw [← ea5] at hs5
        exact ih5 (i + 1) (x5_3 ||| (v_X7_fitsBy_30_0 told strips parts_ i)) (by omega) (hb5.symm.trans hs5.symm) _ _ _ hP hD hS (lv_sub hl [2, 3, 4, 1, 0] rfl)
      refine lv_icmp_ne (tgt := 40) hx hb dX7_fitsBy_30 (by decide) (fun c_30 => ?_) (fun c_30 => ?_)
      · skip
        refine lv_iconst (v := 0) hx hb dX7_fitsBy_40 (by decide) ?_
        rw [show (v_X7_fitsBy_30_0 told strips parts_ i) = 0 from (if_neg c_30)] at J30
        exact J30 _ _ _ hP hD hS (lv_sub hl [0, 1, 2, 3, 4] rfl)
      · skip
        refine lv_iconst (v := 1) hx hb dX7_fitsBy_33 (by decide) ?_
        refine lv_iload hx hb dX7_fitsBy_34 (lv_at hl 4 rfl) ?_
        refine lv_ishl hx hb dX7_fitsBy_36 ?_
        refine lv_goto (tgt := 41) hx hb dX7_fitsBy_37 (by decide) ?_
        rw [show (v_X7_fitsBy_30_0 told strips parts_ i) = (1 <<< ((nI i) &&& 31)) from (if_pos c_30)] at J30
        exact J30 _ _ _ hP hD hS (lv_sub hl [0, 1, 2, 3, 4] rfl)
  exact lp5 ((told 2).toNatClampNeg) 0 0 (Nat.zero_add _) (lp_zero _ _).symm _ _ _ hP hD hS (lv_sub hl [2, 3, 4, 1, 0] rfl)
