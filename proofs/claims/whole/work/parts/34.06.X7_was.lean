def v_X7_was_29_0 (told : Nat → Int32) (seS : Nat → Int32) (seB : Nat → Int32) (seP : Nat → Int32) (i : Nat) (i1 : Nat) (x19_3 : Int32) : Int32 := if x19_3 = 0 then 0 else (if (f_X7_tells told (nI i) (seS ((nI i1).toNatClampNeg)) (seB ((nI i1).toNatClampNeg))) = (seP ((nI i1).toNatClampNeg)) then 1 else 0)
def nx_X7_was_19 (told : Nat → Int32) (seS : Nat → Int32) (seB : Nat → Int32) (seP : Nat → Int32) (i : Nat) (i1 : Nat) (x19_3 : Int32) : Int32 := (v_X7_was_29_0 told seS seB seP i i1 x19_3)
def x_X7_was_19 (told : Nat → Int32) (seen : Int32) (seS : Nat → Int32) (seB : Nat → Int32) (seP : Nat → Int32) (i : Nat) : Int32 := lp (fun iz z => nx_X7_was_19 told seS seB seP i iz z) 1 seen.toNatClampNeg
def v_X7_was_75_0 (told : Nat → Int32) (seen : Int32) (seS : Nat → Int32) (seB : Nat → Int32) (seP : Nat → Int32) (i : Nat) : Int32 := if (x_X7_was_19 told seen seS seB seP i) = 0 then 0 else (1 <<< ((nI i) &&& 31))
def nx_X7_was_4 (told : Nat → Int32) (seen : Int32) (seS : Nat → Int32) (seB : Nat → Int32) (seP : Nat → Int32) (i : Nat) (x4_1 : Int32) : Int32 := (x4_1 ||| (v_X7_was_75_0 told seen seS seB seP i))
def x_X7_was_4 (told : Nat → Int32) (seen : Int32) (seS : Nat → Int32) (seB : Nat → Int32) (seP : Nat → Int32) : Int32 := lp (fun iz z => nx_X7_was_4 told seen seS seB seP iz z) 0 ((told 1).toNatClampNeg)
def f_X7_was (told : Nat → Int32) (seen : Int32) (seS : Nat → Int32) (seB : Nat → Int32) (seP : Nat → Int32) : Int32 := (x_X7_was_4 told seen seS seB seP)
abbrev rm_X7_was : Room := { frames := 1, cells := 0, slots := 0, locals := 24 }
set_option maxRecDepth 100000 in
set_option maxHeartbeats 4000000 in
theorem k_X7_was (l : Launch) (D : va_G) (cI cZ : ClassId) (u : Nat → Nat) (w : Nat → Int32) (told : Nat → Int32) (read : Nat → Int32) (isK : Nat → Int32) (undoes : Int32) (text : Nat → Int32) (texted : Int32) (seen : Int32) (seS : Nat → Int32) (seB : Nat → Int32) (seP : Nat → Int32) (at_ : Int32) (start : Int32) (clauses : Int32) (number : Int32) (word : Int64) (hT1 : kb (told 1) 0 7) (h_seen : kb seen 0 7) : CI l D (kTy cI cZ) kT yX7_was (.code yX7_was cX7_was 5 (some .int) :: wsL_law) rm_X7_was [.ref (u 0)] (wM cI cZ u w told read isK undoes text texted seen seS seB seP at_ start clauses number word) (wM cI cZ u w told read isK undoes text texted seen seS seB seP at_ start clauses number word) (f_X7_was told seen seS seB seP) := by
  refine CI.of (cc := cX7_was) (maxL := 5) (ty := .int) (by decide) rfl (Nat.le_of_ble_eq_true rfl) rfl ?_
  intro p e s m args below meth c A Q ls hx hb hml hts0 hown hA hP hK hD hE hl hret
  have hts : ∀ w ∈ wsL_law, w.before args s = true := fun w h => hts0 w (List.mem_cons_of_mem _ h)
  clear hts0
  have hown : s.vm.findClass RX7 = some m.cls := hown
  have hl : lv_has ls 5 [(0, .ref (u 0))] := hl
  have hS : va_S A s.heap s.heap [] := va_S.rf
  revert hP hS
  suffices hgo : ∀ (H : Heap) (locs : List Loc), va_P D vwCl (wM cI cZ u w told read isK undoes text texted seen seS seB seP at_ start clauses number word) H → va_S A s.heap H locs → W p l e rm_X7_was s m args below meth c H locs 0 0 Q (F0 m 0 ls []) from fun a b => hgo _ _ a b
  intro H locs hP hS
  refine lv_iconst (v := 0) hx hb dX7_was_0 (by decide) ?_
  refine lv_istore_n (lv' := [(1, .int 0), (0, .ref (u 0))]) hx hb dX7_was_1 rfl hl (by decide) rfl (fun ls hl => ?_)
  refine lv_iconst (v := 0) hx hb dX7_was_2 (by decide) ?_
  refine lv_istore_n (lv' := [(2, .int 0), (1, .int 0), (0, .ref (u 0))]) hx hb dX7_was_3 rfl hl (by decide) rfl (fun ls hl => ?_)
  have lp4 : ∀ (k4 i : Nat) (x4_1 : Int32), i + k4 = (told 1).toNatClampNeg → x4_1 = lp (fun iz z => nx_X7_was_4 told seen seS seB seP iz z) 0 i → ∀ (H : Heap) (locs : List Loc) (ls : Array Slot), va_P D vwCl (wM cI cZ u w told read isK undoes text texted seen seS seB seP at_ start clauses number word) H → va_D A (wM cI cZ u w told read isK undoes text texted seen seS seB seP at_ start clauses number word) → va_S A s.heap H locs → lv_has ls 5 [(0, .ref (u 0)), (1, .int x4_1), (2, .int (nI i))] → W p l e rm_X7_was s m args below meth c H locs 0 0 Q (F0 m 4 ls []) := by
    intro k4
    induction k4 with
    | zero =>
      intro i x4_1 hi4 ea4 H locs ls hP hD hS hl
      have hi4 : (told 1).toNatClampNeg = i := by omega
      subst hi4
      have ea4 : x4_1 = (x_X7_was_4 told seen seS seB seP) := ea4
      subst ea4
      refine lv_iload_n hx hb dX7_was_4 rfl (lv_at hl 2 rfl) ?_
      refine lv_aload_n hx hb dX7_was_5 rfl (lv_at hl 0 rfl) ?_
      refine va_get (D := D) (ci := 7) (v := .ref (u 2)) (C := RX7) (T := TX7) (N := 16) hx hb hts inlX7 hown hK hP 0 rfl rfl 1 (by decide) (kw hts kin_4 23 rfl) (fun _ h9 => h9) rfl dX7_was_6 ?_
      refine lv_iconst (v := 1) hx hb dX7_was_9 (by decide) ?_
      refine va_iald (cA := cI) (n := 59) (f := told) hx hb hK hP 2 0 rfl rfl ((kb.lit 1).in (by decide) (by decide)) dX7_was_10 ?_
      show W p l e rm_X7_was s m args below meth c H locs 0 0 Q (F0 m 11 ls [.int (told 1), .int (nI ((told 1).toNatClampNeg))])
      refine lv_icmp_ge (tgt := 93) hx hb dX7_was_11 (by decide) (fun _ => ?_) (fun c_11 => absurd (kle_clamp _) c_11)
      refine lv_iload_n hx hb dX7_was_93 rfl (lv_at hl 1 rfl) ?_
      have hf : (f_X7_was told seen seS seB seP) = (x_X7_was_4 told seen seS seB seP) := rfl
      rw [hf] at hret
      exact hret _ _ _ _ hP hS dX7_was_94
    | succ k4 ih4 =>
      intro i x4_1 hi4 ea4 H locs ls hP hD hS hl
      have hlt4 : i < (told 1).toNatClampNeg := by omega
      refine lv_iload_n hx hb dX7_was_4 rfl (lv_at hl 2 rfl) ?_
      refine lv_aload_n hx hb dX7_was_5 rfl (lv_at hl 0 rfl) ?_
      refine va_get (D := D) (ci := 7) (v := .ref (u 2)) (C := RX7) (T := TX7) (N := 16) hx hb hts inlX7 hown hK hP 0 rfl rfl 1 (by decide) (kw hts kin_4 23 rfl) (fun _ h9 => h9) rfl dX7_was_6 ?_
      refine lv_iconst (v := 1) hx hb dX7_was_9 (by decide) ?_
      refine va_iald (cA := cI) (n := 59) (f := told) hx hb hK hP 2 0 rfl rfl ((kb.lit 1).in (by decide) (by decide)) dX7_was_10 ?_
      show W p l e rm_X7_was s m args below meth c H locs 0 0 Q (F0 m 11 ls [.int (told 1), .int (nI i)])
      refine lv_icmp_ge (tgt := 93) hx hb dX7_was_11 (by decide) (fun c_11 => absurd c_11 (klt_clamp hlt4)) (fun _ => ?_)
      refine lv_iconst (v := 1) hx hb dX7_was_14 (by decide) ?_
      refine lv_istore_n (lv' := [(3, .int 1), (0, .ref (u 0)), (1, .int x4_1), (2, .int (nI i))]) hx hb dX7_was_15 rfl hl (by decide) rfl (fun ls hl => ?_)
      refine lv_iconst (v := 0) hx hb dX7_was_16 (by decide) ?_
      refine lv_istore (lv' := [(4, .int 0), (3, .int 1), (0, .ref (u 0)), (1, .int x4_1), (2, .int (nI i))]) hx hb dX7_was_17 hl (by decide) rfl (fun ls hl => ?_)
      have lp19 : ∀ (k19 i1 : Nat) (x19_3 : Int32), i1 + k19 = seen.toNatClampNeg → x19_3 = lp (fun iz z => nx_X7_was_19 told seS seB seP i iz z) 1 i1 → ∀ (H : Heap) (locs : List Loc) (ls : Array Slot), va_P D vwCl (wM cI cZ u w told read isK undoes text texted seen seS seB seP at_ start clauses number word) H → va_D A (wM cI cZ u w told read isK undoes text texted seen seS seB seP at_ start clauses number word) → va_S A s.heap H locs → lv_has ls 5 [(0, .ref (u 0)), (1, .int x4_1), (2, .int (nI i)), (3, .int x19_3), (4, .int (nI i1))] → W p l e rm_X7_was s m args below meth c H locs 0 0 Q (F0 m 19 ls []) := by
        intro k19
        induction k19 with
        | zero =>
          intro i1 x19_3 hi19 ea19 H locs ls hP hD hS hl
          have hi19 : seen.toNatClampNeg = i1 := by omega
          subst hi19
          have ea19 : x19_3 = (x_X7_was_19 told seen seS seB seP i) := ea19
          subst ea19
          refine lv_iload hx hb dX7_was_19 (lv_at hl 4 rfl) ?_
          refine lv_aload_n hx hb dX7_was_21 rfl (lv_at hl 0 rfl) ?_
          refine va_get (D := D) (ci := 7) (v := .int seen) (C := RX7) (T := TX7) (N := 16) hx hb hts inlX7 hown hK hP 0 rfl rfl 7 (by decide) (kw hts kin_16 19 rfl) (fun _ h9 => h9) rfl dX7_was_22 ?_
          refine lv_icmp_ge (tgt := 73) hx hb dX7_was_25 (by decide) (fun _ => ?_) (fun c_25 => absurd (kle_clamp _) c_25)
          refine lv_iload_n hx hb dX7_was_73 rfl (lv_at hl 1 rfl) ?_
          refine lv_iload_n hx hb dX7_was_74 rfl (lv_at hl 3 rfl) ?_
          have J75 : ∀ (H : Heap) (locs : List Loc) (ls : Array Slot), va_P D vwCl (wM cI cZ u w told read isK undoes text texted seen seS seB seP at_ start clauses number word) H → va_D A (wM cI cZ u w told read isK undoes text texted seen seS seB seP at_ start clauses number word) → va_S A s.heap H locs → lv_has ls 5 [(0, .ref (u 0)), (1, .int x4_1), (2, .int (nI i)), (3, .int (x_X7_was_19 told seen seS seB seP i)), (4, .int (nI seen.toNatClampNeg))] → W p l e rm_X7_was s m args below meth c H locs 0 0 Q (F0 m 85 ls [.int (v_X7_was_75_0 told seen seS seB seP i), .int x4_1]) := by
            intro H locs ls hP hD hS hl
            refine lv_ior hx hb dX7_was_85 ?_
            refine lv_istore_n (lv' := [(1, .int (x4_1 ||| (v_X7_was_75_0 told seen seS seB seP i))), (0, .ref (u 0)), (2, .int (nI i)), (3, .int (x_X7_was_19 told seen seS seB seP i)), (4, .int (nI seen.toNatClampNeg))]) hx hb dX7_was_86 rfl hl (by decide) rfl (fun ls hl => ?_)
            refine lv_iinc (v := (nI (i + 1))) (lv' := [(2, .int (nI (i + 1))), (1, .int (x4_1 ||| (v_X7_was_75_0 told seen seS seB seP i))), (0, .ref (u 0)), (3, .int (x_X7_was_19 told seen seS seB seP i)), (4, .int (nI seen.toNatClampNeg))]) hx hb dX7_was_87 hl (k := 2) rfl (nI_1 i) (by decide) rfl (fun ls hl => ?_)
            refine lv_goto (tgt := 4) hx hb dX7_was_90 (by decide) ?_
            have hb4 : nx_X7_was_4 told seen seS seB seP i x4_1 = (x4_1 ||| (v_X7_was_75_0 told seen seS seB seP i)) := rfl
            have hs4 : (lp (fun iz z => nx_X7_was_4 told seen seS seB seP iz z) 0 (i + 1) : Int32) = nx_X7_was_4 told seen seS seB seP i (lp (fun iz z => nx_X7_was_4 told seen seS seB seP iz z) 0 i : Int32) := lp_succ _ _ _
            rw [← ea4] at hs4
            exact ih4 (i + 1) (x4_1 ||| (v_X7_was_75_0 told seen seS seB seP i)) (by omega) (hb4.symm.trans hs4.symm) _ _ _ hP hD hS (lv_sub hl [2, 1, 0] rfl)
          refine lv_if_eq (tgt := 84) hx hb dX7_was_75 (by decide) (fun c_75 => ?_) (fun c_75 => ?_)
          · skip
            refine lv_iconst (v := 0) hx hb dX7_was_84 (by decide) ?_
            rw [show (v_X7_was_75_0 told seen seS seB seP i) = 0 from (if_pos c_75)] at J75
            exact J75 _ _ _ hP hD hS (lv_sub hl [0, 1, 2, 3, 4] rfl)
          · skip
            refine lv_iconst (v := 1) hx hb dX7_was_78 (by decide) ?_
            refine lv_iload_n hx hb dX7_was_79 rfl (lv_at hl 2 rfl) ?_
            refine lv_ishl hx hb dX7_was_80 ?_
            refine lv_goto (tgt := 85) hx hb dX7_was_81 (by decide) ?_
            rw [show (v_X7_was_75_0 told seen seS seB seP i) = (1 <<< ((nI i) &&& 31)) from (if_neg c_75)] at J75
            exact J75 _ _ _ hP hD hS (lv_sub hl [0, 1, 2, 3, 4] rfl)
        | succ k19 ih19 =>
          intro i1 x19_3 hi19 ea19 H locs ls hP hD hS hl
          have hlt19 : i1 < seen.toNatClampNeg := by omega
          refine lv_iload hx hb dX7_was_19 (lv_at hl 4 rfl) ?_
          refine lv_aload_n hx hb dX7_was_21 rfl (lv_at hl 0 rfl) ?_
          refine va_get (D := D) (ci := 7) (v := .int seen) (C := RX7) (T := TX7) (N := 16) hx hb hts inlX7 hown hK hP 0 rfl rfl 7 (by decide) (kw hts kin_16 19 rfl) (fun _ h9 => h9) rfl dX7_was_22 ?_
          refine lv_icmp_ge (tgt := 73) hx hb dX7_was_25 (by decide) (fun c_25 => absurd c_25 (klt_clamp hlt19)) (fun _ => ?_)
          refine lv_iload_n hx hb dX7_was_28 rfl (lv_at hl 3 rfl) ?_
          have J29 : ∀ (H : Heap) (locs : List Loc) (ls : Array Slot), va_P D vwCl (wM cI cZ u w told read isK undoes text texted seen seS seB seP at_ start clauses number word) H → va_D A (wM cI cZ u w told read isK undoes text texted seen seS seB seP at_ start clauses number word) → va_S A s.heap H locs → lv_has ls 5 [(0, .ref (u 0)), (1, .int x4_1), (2, .int (nI i)), (3, .int x19_3), (4, .int (nI i1))] → W p l e rm_X7_was s m args below meth c H locs 0 0 Q (F0 m 66 ls [.int (v_X7_was_29_0 told seS seB seP i i1 x19_3)]) := by
            intro H locs ls hP hD hS hl
            refine lv_istore_n (lv' := [(3, .int (v_X7_was_29_0 told seS seB seP i i1 x19_3)), (0, .ref (u 0)), (1, .int x4_1), (2, .int (nI i)), (4, .int (nI i1))]) hx hb dX7_was_66 rfl hl (by decide) rfl (fun ls hl => ?_)
            refine lv_iinc (v := (nI (i1 + 1))) (lv' := [(4, .int (nI (i1 + 1))), (3, .int (v_X7_was_29_0 told seS seB seP i i1 x19_3)), (0, .ref (u 0)), (1, .int x4_1), (2, .int (nI i))]) hx hb dX7_was_67 hl (k := 4) rfl (nI_1 i1) (by decide) rfl (fun ls hl => ?_)
            refine lv_goto (tgt := 19) hx hb dX7_was_70 (by decide) ?_
            have hb19 : nx_X7_was_19 told seS seB seP i i1 x19_3 = (v_X7_was_29_0 told seS seB seP i i1 x19_3) := rfl
            have hs19 : (lp (fun iz z => nx_X7_was_19 told seS seB seP i iz z) 1 (i1 + 1) : Int32) = nx_X7_was_19 told seS seB seP i i1 (lp (fun iz z => nx_X7_was_19 told seS seB seP i iz z) 1 i1 : Int32) := lp_succ _ _ _
            rw [← ea19] at hs19
            exact ih19 (i1 + 1) (v_X7_was_29_0 told seS seB seP i i1 x19_3) (by omega) (hb19.symm.trans hs19.symm) _ _ _ hP hD hS (lv_sub hl [2, 3, 4, 1, 0] rfl)
          refine lv_if_eq (tgt := 65) hx hb dX7_was_29 (by decide) (fun c_29 => ?_) (fun c_29 => ?_)
          · skip
            refine lv_iconst (v := 0) hx hb dX7_was_65 (by decide) ?_
            rw [show (v_X7_was_29_0 told seS seB seP i i1 x19_3) = 0 from (if_pos c_29)] at J29
            exact J29 _ _ _ hP hD hS (lv_sub hl [0, 1, 2, 3, 4] rfl)
          · skip
            refine lv_aload_n hx hb dX7_was_32 rfl (lv_at hl 0 rfl) ?_
            refine lv_iload_n hx hb dX7_was_33 rfl (lv_at hl 2 rfl) ?_
            refine lv_aload_n hx hb dX7_was_34 rfl (lv_at hl 0 rfl) ?_
            refine va_get (D := D) (ci := 7) (v := .ref (u 6)) (C := RX7) (T := TX7) (N := 16) hx hb hts inlX7 hown hK hP 0 rfl rfl 8 (by decide) (kw hts kin_5 4 rfl) (fun _ h9 => h9) rfl dX7_was_35 ?_
            refine lv_iload hx hb dX7_was_38 (lv_at hl 4 rfl) ?_
            refine va_iald (cA := cI) (n := 6) (f := seS) hx hb hK hP 6 0 rfl rfl ((kloop h_seen (by decide) hlt19).in (by decide) (by decide)) dX7_was_40 ?_
            refine lv_aload_n hx hb dX7_was_41 rfl (lv_at hl 0 rfl) ?_
            refine va_get (D := D) (ci := 7) (v := .ref (u 7)) (C := RX7) (T := TX7) (N := 16) hx hb hts inlX7 hown hK hP 0 rfl rfl 9 (by decide) (kw hts kin_5 5 rfl) (fun _ h9 => h9) rfl dX7_was_42 ?_
            refine lv_iload hx hb dX7_was_45 (lv_at hl 4 rfl) ?_
            refine va_iald (cA := cI) (n := 6) (f := seB) hx hb hK hP 7 0 rfl rfl ((kloop h_seen (by decide) hlt19).in (by decide) (by decide)) dX7_was_47 ?_
            refine kvi (As := [.int (nI i), .int (seS ((nI i1).toNatClampNeg)), .int (seB ((nI i1).toNatClampNeg))]) (rest := []) (q0 := 0) (ci := 7) ⟨hx, hb, hml, hown, hts⟩ hP hK hD hS hA hE (k_X7_tells l D cI cZ  u w told read isK undoes text texted seen seS seB seP at_ start clauses number word (nI i) (seS ((nI i1).toNatClampNeg)) (seB ((nI i1).toNatClampNeg)) ((kloop hT1 (by decide) hlt4).wide (by decide) (by decide))) (kcv hts kM_X7_tells (kin_22 _ (List.mem_of_getElem? (i := 20) rfl)) ⟨rfl, rfl⟩ ⟨Nat.le_of_ble_eq_true rfl, Nat.le_of_ble_eq_true rfl⟩) kBl_T kOk_T (wM cI cZ u w told read isK undoes text texted seen seS seB seP at_ start clauses number word) (cut_m_m cI cZ u w told read isK undoes text texted seen seS seB seP at_ start clauses number word w told read isK undoes text texted seen seS seB seP at_ start clauses number word).1 (cut_m_m cI cZ u w told read isK undoes text texted seen seS seB seP at_ start clauses number word w told read isK undoes text texted seen seS seB seP at_ start clauses number word).2 rfl rfl rfl rfl hl.1 rfl (Nat.le_of_ble_eq_true rfl) dX7_was_48 (fun H locs hP hD hS => ?_)
            refine lv_aload_n hx hb dX7_was_51 rfl (lv_at hl 0 rfl) ?_
            refine va_get (D := D) (ci := 7) (v := .ref (u 8)) (C := RX7) (T := TX7) (N := 16) hx hb hts inlX7 hown hK hP 0 rfl rfl 10 (by decide) (kw hts kin_5 6 rfl) (fun _ h9 => h9) rfl dX7_was_52 ?_
            refine lv_iload hx hb dX7_was_55 (lv_at hl 4 rfl) ?_
            refine va_iald (cA := cI) (n := 6) (f := seP) hx hb hK hP 8 0 rfl rfl ((kloop h_seen (by decide) hlt19).in (by decide) (by decide)) dX7_was_57 ?_
            refine lv_icmp_ne (tgt := 65) hx hb dX7_was_58 (by decide) (fun c_58 => ?_) (fun c_58 => ?_)
            · skip
              refine lv_iconst (v := 0) hx hb dX7_was_65 (by decide) ?_
              rw [show (v_X7_was_29_0 told seS seB seP i i1 x19_3) = 0 from ((if_neg c_29).trans (if_neg c_58))] at J29
              exact J29 _ _ _ hP hD hS (lv_sub hl [0, 1, 2, 3, 4] rfl)
            · skip
              refine lv_iconst (v := 1) hx hb dX7_was_61 (by decide) ?_
              refine lv_goto (tgt := 66) hx hb dX7_was_62 (by decide) ?_
              rw [show (v_X7_was_29_0 told seS seB seP i i1 x19_3) = 1 from ((if_neg c_29).trans (if_pos c_58))] at J29
              exact J29 _ _ _ hP hD hS (lv_sub hl [0, 1, 2, 3, 4] rfl)
      exact lp19 seen.toNatClampNeg 0 1 (Nat.zero_add _) (lp_zero _ _).symm _ _ _ hP hD hS (lv_sub hl [2, 3, 4, 1, 0] rfl)
  exact lp4 ((told 1).toNatClampNeg) 0 0 (Nat.zero_add _) (lp_zero _ _).symm _ _ _ hP hD hS (lv_sub hl [2, 1, 0] rfl)
