def v_X7_smoothOf_24_0 (w : Nat → Int32) (person : Int32) (i : Nat) : Int32 := if (w (((1 + (6 * person)) + (nI i)).toNatClampNeg)) = 0 then (1 <<< ((nI i) &&& 31)) else 0
def nx_X7_smoothOf_4 (w : Nat → Int32) (person : Int32) (i : Nat) (x4_2 : Int32) : Int32 := (x4_2 ||| (v_X7_smoothOf_24_0 w person i))
def x_X7_smoothOf_4 (w : Nat → Int32) (person : Int32) : Int32 := lp (fun iz z => nx_X7_smoothOf_4 w person iz z) 0 6
def f_X7_smoothOf (w : Nat → Int32) (person : Int32) : Int32 := (x_X7_smoothOf_4 w person)
abbrev rm_X7_smoothOf : Room := { frames := 0, cells := 0, slots := 0, locals := 0 }
set_option maxRecDepth 100000 in
set_option maxHeartbeats 4000000 in
theorem k_X7_smoothOf (l : Launch) (D : va_G) (cI cZ : ClassId) (u : Nat → Nat) (w : Nat → Int32) (told : Nat → Int32) (read : Nat → Int32) (isK : Nat → Int32) (undoes : Int32) (text : Nat → Int32) (texted : Int32) (seen : Int32) (seS : Nat → Int32) (seB : Nat → Int32) (seP : Nat → Int32) (at_ : Int32) (start : Int32) (clauses : Int32) (number : Int32) (word : Int64) (person : Int32) (h_person : kb person 0 6) : CI l D (kTy cI cZ) kT yX7_smoothOf (.code yX7_smoothOf cX7_smoothOf 4 (some .int) :: wsL_law) rm_X7_smoothOf [.ref (u 0), .int person] (wM cI cZ u w told read isK undoes text texted seen seS seB seP at_ start clauses number word) (wM cI cZ u w told read isK undoes text texted seen seS seB seP at_ start clauses number word) (f_X7_smoothOf w person) := by
  refine CI.of (cc := cX7_smoothOf) (maxL := 4) (ty := .int) (by decide) rfl (Nat.le_of_ble_eq_true rfl) rfl ?_
  intro p e s m args below meth c A Q ls hx hb hml hts0 hown hA hP hK hD hE hl hret
  have hts : ∀ w ∈ wsL_law, w.before args s = true := fun w h => hts0 w (List.mem_cons_of_mem _ h)
  clear hts0
  have hown : s.vm.findClass RX7 = some m.cls := hown
  have hl : lv_has ls 4 [(0, .ref (u 0)), (1, .int person)] := hl
  have hS : va_S A s.heap s.heap [] := va_S.rf
  revert hP hS
  suffices hgo : ∀ (H : Heap) (locs : List Loc), va_P D vwCl (wM cI cZ u w told read isK undoes text texted seen seS seB seP at_ start clauses number word) H → va_S A s.heap H locs → W p l e rm_X7_smoothOf s m args below meth c H locs 0 0 Q (F0 m 0 ls []) from fun a b => hgo _ _ a b
  intro H locs hP hS
  refine lv_iconst (v := 0) hx hb dX7_smoothOf_0 (by decide) ?_
  refine lv_istore_n (lv' := [(2, .int 0), (0, .ref (u 0)), (1, .int person)]) hx hb dX7_smoothOf_1 rfl hl (by decide) rfl (fun ls hl => ?_)
  refine lv_iconst (v := 0) hx hb dX7_smoothOf_2 (by decide) ?_
  refine lv_istore_n (lv' := [(3, .int 0), (2, .int 0), (0, .ref (u 0)), (1, .int person)]) hx hb dX7_smoothOf_3 rfl hl (by decide) rfl (fun ls hl => ?_)
  have lp4 : ∀ (k4 i : Nat) (x4_2 : Int32), i + k4 = 6 → x4_2 = lp (fun iz z => nx_X7_smoothOf_4 w person iz z) 0 i → ∀ (H : Heap) (locs : List Loc) (ls : Array Slot), va_P D vwCl (wM cI cZ u w told read isK undoes text texted seen seS seB seP at_ start clauses number word) H → va_D A (wM cI cZ u w told read isK undoes text texted seen seS seB seP at_ start clauses number word) → va_S A s.heap H locs → lv_has ls 4 [(0, .ref (u 0)), (1, .int person), (2, .int x4_2), (3, .int (nI i))] → W p l e rm_X7_smoothOf s m args below meth c H locs 0 0 Q (F0 m 4 ls []) := by
    intro k4
    induction k4 with
    | zero =>
      intro i x4_2 hi4 ea4 H locs ls hP hD hS hl
      have hi4 : 6 = i := by omega
      subst hi4
      have ea4 : x4_2 = (x_X7_smoothOf_4 w person) := ea4
      subst ea4
      refine lv_iload_n hx hb dX7_smoothOf_4 rfl (lv_at hl 3 rfl) ?_
      refine lv_bipush (v := 6) hx hb dX7_smoothOf_5 (by decide) ?_
      refine lv_icmp_ge (tgt := 42) hx hb dX7_smoothOf_7 (by decide) (fun _ => ?_) (fun c_7 => absurd (nI_le (Nat.le_refl _) (by decide)) c_7)
      refine lv_iload_n hx hb dX7_smoothOf_42 rfl (lv_at hl 2 rfl) ?_
      have hf : (f_X7_smoothOf w person) = (x_X7_smoothOf_4 w person) := rfl
      rw [hf] at hret
      exact hret _ _ _ _ hP hS dX7_smoothOf_43
    | succ k4 ih4 =>
      intro i x4_2 hi4 ea4 H locs ls hP hD hS hl
      have hlt4 : i < 6 := by omega
      refine lv_iload_n hx hb dX7_smoothOf_4 rfl (lv_at hl 3 rfl) ?_
      refine lv_bipush (v := 6) hx hb dX7_smoothOf_5 (by decide) ?_
      refine lv_icmp_ge (tgt := 42) hx hb dX7_smoothOf_7 (by decide) (fun c_7 => absurd c_7 (nI_ge hlt4 (by decide))) (fun _ => ?_)
      refine lv_iload_n hx hb dX7_smoothOf_10 rfl (lv_at hl 2 rfl) ?_
      refine lv_aload_n hx hb dX7_smoothOf_11 rfl (lv_at hl 0 rfl) ?_
      refine va_get (D := D) (ci := 7) (v := .ref (u 1)) (C := RX7) (T := TX7) (N := 16) hx hb hts inlX7 hown hK hP 0 rfl rfl 0 (by decide) (kw hts kin_4 22 rfl) (fun _ h9 => h9) rfl dX7_smoothOf_12 ?_
      refine lv_iconst (v := 1) hx hb dX7_smoothOf_15 (by decide) ?_
      refine lv_bipush (v := 6) hx hb dX7_smoothOf_16 (by decide) ?_
      refine lv_iload_n hx hb dX7_smoothOf_18 rfl (lv_at hl 1 rfl) ?_
      refine lv_imul hx hb dX7_smoothOf_19 ?_
      refine lv_iadd hx hb dX7_smoothOf_20 ?_
      refine lv_iload_n hx hb dX7_smoothOf_21 rfl (lv_at hl 3 rfl) ?_
      refine lv_iadd hx hb dX7_smoothOf_22 ?_
      refine va_iald (cA := cI) (n := 1020) (f := w) hx hb hK hP 1 0 rfl rfl ((kb.add (kb.add (kb.lit 1) (kb.mul (c := 6) rfl h_person)) (kb.mk hlt4)).in (by decide) (by decide)) dX7_smoothOf_23 ?_
      have J24 : ∀ (H : Heap) (locs : List Loc) (ls : Array Slot), va_P D vwCl (wM cI cZ u w told read isK undoes text texted seen seS seB seP at_ start clauses number word) H → va_D A (wM cI cZ u w told read isK undoes text texted seen seS seB seP at_ start clauses number word) → va_S A s.heap H locs → lv_has ls 4 [(0, .ref (u 0)), (1, .int person), (2, .int x4_2), (3, .int (nI i))] → W p l e rm_X7_smoothOf s m args below meth c H locs 0 0 Q (F0 m 34 ls [.int (v_X7_smoothOf_24_0 w person i), .int x4_2]) := by
        intro H locs ls hP hD hS hl
        refine lv_ior hx hb dX7_smoothOf_34 ?_
        refine lv_istore_n (lv' := [(2, .int (x4_2 ||| (v_X7_smoothOf_24_0 w person i))), (0, .ref (u 0)), (1, .int person), (3, .int (nI i))]) hx hb dX7_smoothOf_35 rfl hl (by decide) rfl (fun ls hl => ?_)
        refine lv_iinc (v := (nI (i + 1))) (lv' := [(3, .int (nI (i + 1))), (2, .int (x4_2 ||| (v_X7_smoothOf_24_0 w person i))), (0, .ref (u 0)), (1, .int person)]) hx hb dX7_smoothOf_36 hl (k := 3) rfl (nI_1 i) (by decide) rfl (fun ls hl => ?_)
        refine lv_goto (tgt := 4) hx hb dX7_smoothOf_39 (by decide) ?_
        have hb4 : nx_X7_smoothOf_4 w person i x4_2 = (x4_2 ||| (v_X7_smoothOf_24_0 w person i)) := rfl
        have hs4 : (lp (fun iz z => nx_X7_smoothOf_4 w person iz z) 0 (i + 1) : Int32) = nx_X7_smoothOf_4 w person i (lp (fun iz z => nx_X7_smoothOf_4 w person iz z) 0 i : Int32) := lp_succ _ _ _
        rw [← ea4] at hs4
        exact ih4 (i + 1) (x4_2 ||| (v_X7_smoothOf_24_0 w person i)) (by omega) (hb4.symm.trans hs4.symm) _ _ _ hP hD hS (lv_sub hl [2, 3, 1, 0] rfl)
      refine lv_if_ne (tgt := 33) hx hb dX7_smoothOf_24 (by decide) (fun c_24 => ?_) (fun c_24 => ?_)
      · skip
        refine lv_iconst (v := 0) hx hb dX7_smoothOf_33 (by decide) ?_
        rw [show (v_X7_smoothOf_24_0 w person i) = 0 from (if_neg c_24)] at J24
        exact J24 _ _ _ hP hD hS (lv_sub hl [0, 1, 2, 3] rfl)
      · skip
        refine lv_iconst (v := 1) hx hb dX7_smoothOf_27 (by decide) ?_
        refine lv_iload_n hx hb dX7_smoothOf_28 rfl (lv_at hl 3 rfl) ?_
        refine lv_ishl hx hb dX7_smoothOf_29 ?_
        refine lv_goto (tgt := 34) hx hb dX7_smoothOf_30 (by decide) ?_
        rw [show (v_X7_smoothOf_24_0 w person i) = (1 <<< ((nI i) &&& 31)) from (if_pos c_24)] at J24
        exact J24 _ _ _ hP hD hS (lv_sub hl [0, 1, 2, 3] rfl)
  exact lp4 6 0 0 (Nat.zero_add _) (lp_zero _ _).symm _ _ _ hP hD hS (lv_sub hl [2, 3, 1, 0] rfl)
