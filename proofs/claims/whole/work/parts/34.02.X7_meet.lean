def v_X7_meet_64_0 (w : Nat → Int32) (person : Int32) (i : Nat) (i1 : Nat) (x46_5 : Int32) : Int32 := if (f_X7_has (nI i) (nI i1)) = 0 then 0 else ((w (((37 + (6 * (nI i1))) + person).toNatClampNeg)) &&& (x46_5 ^^^ (-1)))
def nx_X7_meet_46 (w : Nat → Int32) (person : Int32) (i : Nat) (i1 : Nat) (x46_5 : Int32) (x46_6 : Int32) : Int32 × Int32 := ((x46_5 ||| (v_X7_meet_64_0 w person i i1 x46_5)), (x46_6 ||| ((w (((61 + (6 * (nI i1))) + person).toNatClampNeg)) &&& (v_X7_meet_64_0 w person i i1 x46_5))))
def x_X7_meet_46 (w : Nat → Int32) (told : Nat → Int32) (person : Int32) (i : Nat) : Int32 × Int32 := lp (fun iz z => nx_X7_meet_46 w person i iz z.1 z.2) (0, 0) ((told 0).toNatClampNeg)
def v_X7_meet_140_0 (w : Nat → Int32) (told : Nat → Int32) (person : Int32) (rumour : Int32) (i : Nat) : Int32 := if (f_X7_fitsBy told ((x_X7_meet_46 w told person i).1) ((x_X7_meet_46 w told person i).2)) = (1 <<< (rumour &&& 31)) then 1 else 0
def v_X7_meet_152_0 (w : Nat → Int32) (told : Nat → Int32) (person : Int32) (rumour : Int32) (i : Nat) (x24_3 : Int32) : Int32 := if (v_X7_meet_140_0 w told person rumour i) = 0 then x24_3 else (if x24_3 = (-1) then (nI i) else (if (f_X7_ones x24_3) ≤ (f_X7_ones (nI i)) then x24_3 else (nI i)))
def nx_X7_meet_24 (w : Nat → Int32) (told : Nat → Int32) (person : Int32) (rumour : Int32) (i : Nat) (x24_3 : Int32) : Int32 := (v_X7_meet_152_0 w told person rumour i x24_3)
def x_X7_meet_24 (w : Nat → Int32) (told : Nat → Int32) (person : Int32) (rumour : Int32) : Int32 := lp (fun iz z => nx_X7_meet_24 w told person rumour iz z) (-1) ((1 <<< ((told 0) &&& 31)).toNatClampNeg)
def f_X7_meet (w : Nat → Int32) (told : Nat → Int32) (person : Int32) (rumour : Int32) : Int32 := if (f_X7_isPerson told person) = 0 then (-2) else (if (f_X7_isRumour told rumour) = 0 then (-2) else (x_X7_meet_24 w told person rumour))
abbrev rm_X7_meet : Room := { frames := 2, cells := 0, slots := 0, locals := 46 }
set_option maxRecDepth 100000 in
set_option maxHeartbeats 4000000 in
theorem k_X7_meet (l : Launch) (D : va_G) (cI cZ : ClassId) (u : Nat → Nat) (w : Nat → Int32) (told : Nat → Int32) (read : Nat → Int32) (isK : Nat → Int32) (undoes : Int32) (text : Nat → Int32) (texted : Int32) (seen : Int32) (seS : Nat → Int32) (seB : Nat → Int32) (seP : Nat → Int32) (at_ : Int32) (start : Int32) (clauses : Int32) (number : Int32) (word : Int64) (person : Int32) (rumour : Int32) (hT0 : kb (told 0) 1 5) (hT1 : kb (told 1) 0 7) (hT2 : kb (told 2) 0 9) : CI l D (kTy cI cZ) kT yX7_meet (.code yX7_meet cX7_meet 9 (some .int) :: wsL_law) rm_X7_meet [.ref (u 0), .int person, .int rumour] (wM cI cZ u w told read isK undoes text texted seen seS seB seP at_ start clauses number word) (wM cI cZ u w told read isK undoes text texted seen seS seB seP at_ start clauses number word) (f_X7_meet w told person rumour) := by
  refine CI.of (cc := cX7_meet) (maxL := 9) (ty := .int) (by decide) rfl (Nat.le_of_ble_eq_true rfl) rfl ?_
  intro p e s m args below meth c A Q ls hx hb hml hts0 hown hA hP hK hD hE hl hret
  have hts : ∀ w ∈ wsL_law, w.before args s = true := fun w h => hts0 w (List.mem_cons_of_mem _ h)
  clear hts0
  have hown : s.vm.findClass RX7 = some m.cls := hown
  have hl : lv_has ls 9 [(0, .ref (u 0)), (1, .int person), (2, .int rumour)] := hl
  have hS : va_S A s.heap s.heap [] := va_S.rf
  revert hP hS
  suffices hgo : ∀ (H : Heap) (locs : List Loc), va_P D vwCl (wM cI cZ u w told read isK undoes text texted seen seS seB seP at_ start clauses number word) H → va_S A s.heap H locs → W p l e rm_X7_meet s m args below meth c H locs 0 0 Q (F0 m 0 ls []) from fun a b => hgo _ _ a b
  intro H locs hP hS
  refine lv_aload_n hx hb dX7_meet_0 rfl (lv_at hl 0 rfl) ?_
  refine lv_iload_n hx hb dX7_meet_1 rfl (lv_at hl 1 rfl) ?_
  refine kvi (As := [.int person]) (rest := []) (q0 := 0) (ci := 7) ⟨hx, hb, hml, hown, hts⟩ hP hK hD hS hA hE (k_X7_isPerson l D cI cZ  u w told read isK undoes text texted seen seS seB seP at_ start clauses number word person) (kcv hts kM_X7_isPerson (kin_18 _ (List.mem_of_getElem? (i := 6) rfl)) ⟨rfl, rfl⟩ ⟨Nat.le_of_ble_eq_true rfl, Nat.le_of_ble_eq_true rfl⟩) kBl_T kOk_T (wM cI cZ u w told read isK undoes text texted seen seS seB seP at_ start clauses number word) (cut_m_m cI cZ u w told read isK undoes text texted seen seS seB seP at_ start clauses number word w told read isK undoes text texted seen seS seB seP at_ start clauses number word).1 (cut_m_m cI cZ u w told read isK undoes text texted seen seS seB seP at_ start clauses number word w told read isK undoes text texted seen seS seB seP at_ start clauses number word).2 rfl rfl rfl rfl hl.1 rfl (Nat.le_of_ble_eq_true rfl) dX7_meet_2 (fun H locs hP hD hS => ?_)
  refine lv_if_eq (tgt := 16) hx hb dX7_meet_5 (by decide) (fun c_5 => ?_) (fun c_5 => ?_)
  · skip
    refine lv_bipush (v := (-2)) hx hb dX7_meet_16 (by decide) ?_
    have hf : (f_X7_meet w told person rumour) = (-2) := (if_pos c_5)
    rw [hf] at hret
    exact hret _ _ _ _ hP hS dX7_meet_18
  · skip
    refine lv_aload_n hx hb dX7_meet_8 rfl (lv_at hl 0 rfl) ?_
    refine lv_iload_n hx hb dX7_meet_9 rfl (lv_at hl 2 rfl) ?_
    refine kvi (As := [.int rumour]) (rest := []) (q0 := 0) (ci := 7) ⟨hx, hb, hml, hown, hts⟩ hP hK hD hS hA hE (k_X7_isRumour l D cI cZ  u w told read isK undoes text texted seen seS seB seP at_ start clauses number word rumour) (kcv hts kM_X7_isRumour (kin_20 _ (List.mem_of_getElem? (i := 2) rfl)) ⟨rfl, rfl⟩ ⟨Nat.le_of_ble_eq_true rfl, Nat.le_of_ble_eq_true rfl⟩) kBl_T kOk_T (wM cI cZ u w told read isK undoes text texted seen seS seB seP at_ start clauses number word) (cut_m_m cI cZ u w told read isK undoes text texted seen seS seB seP at_ start clauses number word w told read isK undoes text texted seen seS seB seP at_ start clauses number word).1 (cut_m_m cI cZ u w told read isK undoes text texted seen seS seB seP at_ start clauses number word w told read isK undoes text texted seen seS seB seP at_ start clauses number word).2 rfl rfl rfl rfl hl.1 rfl (Nat.le_of_ble_eq_true rfl) dX7_meet_10 (fun H locs hP hD hS => ?_)
    refine lv_if_ne (tgt := 19) hx hb dX7_meet_13 (by decide) (fun c_13 => ?_) (fun c_13 => ?_)
    · skip
      refine lv_iconst (v := (-1)) hx hb dX7_meet_19 (by decide) ?_
      refine lv_istore_n (lv' := [(3, .int (-1)), (0, .ref (u 0)), (1, .int person), (2, .int rumour)]) hx hb dX7_meet_20 rfl hl (by decide) rfl (fun ls hl => ?_)
      refine lv_iconst (v := 0) hx hb dX7_meet_21 (by decide) ?_
      refine lv_istore (lv' := [(4, .int 0), (3, .int (-1)), (0, .ref (u 0)), (1, .int person), (2, .int rumour)]) hx hb dX7_meet_22 hl (by decide) rfl (fun ls hl => ?_)
      have lp24 : ∀ (k24 i : Nat) (x24_3 : Int32), i + k24 = (1 <<< ((told 0) &&& 31)).toNatClampNeg → x24_3 = lp (fun iz z => nx_X7_meet_24 w told person rumour iz z) (-1) i → ∀ (H : Heap) (locs : List Loc) (ls : Array Slot), va_P D vwCl (wM cI cZ u w told read isK undoes text texted seen seS seB seP at_ start clauses number word) H → va_D A (wM cI cZ u w told read isK undoes text texted seen seS seB seP at_ start clauses number word) → va_S A s.heap H locs → lv_has ls 9 [(0, .ref (u 0)), (1, .int person), (2, .int rumour), (3, .int x24_3), (4, .int (nI i))] → W p l e rm_X7_meet s m args below meth c H locs 0 0 Q (F0 m 24 ls []) := by
        intro k24
        induction k24 with
        | zero =>
          intro i x24_3 hi24 ea24 H locs ls hP hD hS hl
          have hi24 : (1 <<< ((told 0) &&& 31)).toNatClampNeg = i := by omega
          subst hi24
          have ea24 : x24_3 = (x_X7_meet_24 w told person rumour) := ea24
          subst ea24
          refine lv_iload hx hb dX7_meet_24 (lv_at hl 4 rfl) ?_
          refine lv_iconst (v := 1) hx hb dX7_meet_26 (by decide) ?_
          refine lv_aload_n hx hb dX7_meet_27 rfl (lv_at hl 0 rfl) ?_
          refine va_get (D := D) (ci := 7) (v := .ref (u 2)) (C := RX7) (T := TX7) (N := 16) hx hb hts inlX7 hown hK hP 0 rfl rfl 1 (by decide) (kw hts kin_4 23 rfl) (fun _ h9 => h9) rfl dX7_meet_28 ?_
          refine lv_iconst (v := 0) hx hb dX7_meet_31 (by decide) ?_
          refine va_iald (cA := cI) (n := 59) (f := told) hx hb hK hP 2 0 rfl rfl ((kb.lit 0).in (by decide) (by decide)) dX7_meet_32 ?_
          show W p l e rm_X7_meet s m args below meth c H locs 0 0 Q (F0 m 33 ls [.int (told 0), .int 1, .int (nI ((1 <<< ((told 0) &&& 31)).toNatClampNeg))])
          refine lv_ishl hx hb dX7_meet_33 ?_
          refine lv_icmp_ge (tgt := 185) hx hb dX7_meet_34 (by decide) (fun _ => ?_) (fun c_34 => absurd (kle_clamp _) c_34)
          refine lv_iload_n hx hb dX7_meet_185 rfl (lv_at hl 3 rfl) ?_
          have hf : (f_X7_meet w told person rumour) = (x_X7_meet_24 w told person rumour) := ((if_neg c_5).trans (if_neg c_13))
          rw [hf] at hret
          exact hret _ _ _ _ hP hS dX7_meet_186
        | succ k24 ih24 =>
          intro i x24_3 hi24 ea24 H locs ls hP hD hS hl
          have hlt24 : i < (1 <<< ((told 0) &&& 31)).toNatClampNeg := by omega
          refine lv_iload hx hb dX7_meet_24 (lv_at hl 4 rfl) ?_
          refine lv_iconst (v := 1) hx hb dX7_meet_26 (by decide) ?_
          refine lv_aload_n hx hb dX7_meet_27 rfl (lv_at hl 0 rfl) ?_
          refine va_get (D := D) (ci := 7) (v := .ref (u 2)) (C := RX7) (T := TX7) (N := 16) hx hb hts inlX7 hown hK hP 0 rfl rfl 1 (by decide) (kw hts kin_4 23 rfl) (fun _ h9 => h9) rfl dX7_meet_28 ?_
          refine lv_iconst (v := 0) hx hb dX7_meet_31 (by decide) ?_
          refine va_iald (cA := cI) (n := 59) (f := told) hx hb hK hP 2 0 rfl rfl ((kb.lit 0).in (by decide) (by decide)) dX7_meet_32 ?_
          show W p l e rm_X7_meet s m args below meth c H locs 0 0 Q (F0 m 33 ls [.int (told 0), .int 1, .int (nI i)])
          refine lv_ishl hx hb dX7_meet_33 ?_
          refine lv_icmp_ge (tgt := 185) hx hb dX7_meet_34 (by decide) (fun c_34 => absurd c_34 (klt_clamp hlt24)) (fun _ => ?_)
          refine lv_iconst (v := 0) hx hb dX7_meet_37 (by decide) ?_
          refine lv_istore (lv' := [(5, .int 0), (0, .ref (u 0)), (1, .int person), (2, .int rumour), (3, .int x24_3), (4, .int (nI i))]) hx hb dX7_meet_38 hl (by decide) rfl (fun ls hl => ?_)
          refine lv_iconst (v := 0) hx hb dX7_meet_40 (by decide) ?_
          refine lv_istore (lv' := [(6, .int 0), (5, .int 0), (0, .ref (u 0)), (1, .int person), (2, .int rumour), (3, .int x24_3), (4, .int (nI i))]) hx hb dX7_meet_41 hl (by decide) rfl (fun ls hl => ?_)
          refine lv_iconst (v := 0) hx hb dX7_meet_43 (by decide) ?_
          refine lv_istore (lv' := [(7, .int 0), (6, .int 0), (5, .int 0), (0, .ref (u 0)), (1, .int person), (2, .int rumour), (3, .int x24_3), (4, .int (nI i))]) hx hb dX7_meet_44 hl (by decide) rfl (fun ls hl => ?_)
          have lp46 : ∀ (k46 i1 : Nat) (x46_5 : Int32) (x46_6 : Int32), i1 + k46 = (told 0).toNatClampNeg → (x46_5, x46_6) = lp (fun iz z => nx_X7_meet_46 w person i iz z.1 z.2) (0, 0) i1 → ∀ (H : Heap) (locs : List Loc) (ls : Array Slot), va_P D vwCl (wM cI cZ u w told read isK undoes text texted seen seS seB seP at_ start clauses number word) H → va_D A (wM cI cZ u w told read isK undoes text texted seen seS seB seP at_ start clauses number word) → va_S A s.heap H locs → lv_has ls 9 [(0, .ref (u 0)), (1, .int person), (2, .int rumour), (3, .int x24_3), (4, .int (nI i)), (5, .int x46_5), (6, .int x46_6), (7, .int (nI i1))] → W p l e rm_X7_meet s m args below meth c H locs 0 0 Q (F0 m 46 ls []) := by
            intro k46
            induction k46 with
            | zero =>
              intro i1 x46_5 x46_6 hi46 ea46 H locs ls hP hD hS hl
              have hi46 : (told 0).toNatClampNeg = i1 := by omega
              subst hi46
              have ea46 : (x46_5, x46_6) = (x_X7_meet_46 w told person i) := ea46
              have e46_0 : x46_5 = ((x_X7_meet_46 w told person i).1) := (kfst ea46)
              have e46_1 : x46_6 = ((x_X7_meet_46 w told person i).2) := (ksnd ea46)
              clear ea46
              have hl : lv_has ls 9 [(0, .ref (u 0)), (1, .int person), (2, .int rumour), (3, .int x24_3), (4, .int (nI i)), (5, .int ((x_X7_meet_46 w told person i).1)), (6, .int ((x_X7_meet_46 w told person i).2)), (7, .int (nI ((told 0).toNatClampNeg)))] := by rw [← e46_0, ← e46_1]; exact hl
              refine lv_iload hx hb dX7_meet_46 (lv_at hl 7 rfl) ?_
              refine lv_aload_n hx hb dX7_meet_48 rfl (lv_at hl 0 rfl) ?_
              refine va_get (D := D) (ci := 7) (v := .ref (u 2)) (C := RX7) (T := TX7) (N := 16) hx hb hts inlX7 hown hK hP 0 rfl rfl 1 (by decide) (kw hts kin_4 23 rfl) (fun _ h9 => h9) rfl dX7_meet_49 ?_
              refine lv_iconst (v := 0) hx hb dX7_meet_52 (by decide) ?_
              refine va_iald (cA := cI) (n := 59) (f := told) hx hb hK hP 2 0 rfl rfl ((kb.lit 0).in (by decide) (by decide)) dX7_meet_53 ?_
              show W p l e rm_X7_meet s m args below meth c H locs 0 0 Q (F0 m 54 ls [.int (told 0), .int (nI ((told 0).toNatClampNeg))])
              refine lv_icmp_ge (tgt := 129) hx hb dX7_meet_54 (by decide) (fun _ => ?_) (fun c_54 => absurd (kle_clamp _) c_54)
              refine lv_aload_n hx hb dX7_meet_129 rfl (lv_at hl 0 rfl) ?_
              refine lv_iload hx hb dX7_meet_130 (lv_at hl 5 rfl) ?_
              refine lv_iload hx hb dX7_meet_132 (lv_at hl 6 rfl) ?_
              refine kvi (As := [.int ((x_X7_meet_46 w told person i).1), .int ((x_X7_meet_46 w told person i).2)]) (rest := []) (q0 := 0) (ci := 7) ⟨hx, hb, hml, hown, hts⟩ hP hK hD hS hA hE (k_X7_fitsBy l D cI cZ  u w told read isK undoes text texted seen seS seB seP at_ start clauses number word ((x_X7_meet_46 w told person i).1) ((x_X7_meet_46 w told person i).2) (hT2.wide (by decide) (by decide))) (kcv hts kM_X7_fitsBy (kin_21 _ (List.mem_of_getElem? (i := 16) rfl)) ⟨rfl, rfl⟩ ⟨Nat.le_of_ble_eq_true rfl, Nat.le_of_ble_eq_true rfl⟩) kBl_T kOk_T (wM cI cZ u w told read isK undoes text texted seen seS seB seP at_ start clauses number word) (cut_m_m cI cZ u w told read isK undoes text texted seen seS seB seP at_ start clauses number word w told read isK undoes text texted seen seS seB seP at_ start clauses number word).1 (cut_m_m cI cZ u w told read isK undoes text texted seen seS seB seP at_ start clauses number word w told read isK undoes text texted seen seS seB seP at_ start clauses number word).2 rfl rfl rfl rfl hl.1 rfl (Nat.le_of_ble_eq_true rfl) dX7_meet_134 (fun H locs hP hD hS => ?_)
              refine lv_iconst (v := 1) hx hb dX7_meet_137 (by decide) ?_
              refine lv_iload_n hx hb dX7_meet_138 rfl (lv_at hl 2 rfl) ?_
              refine lv_ishl hx hb dX7_meet_139 ?_
              have J140 : ∀ (H : Heap) (locs : List Loc) (ls : Array Slot), va_P D vwCl (wM cI cZ u w told read isK undoes text texted seen seS seB seP at_ start clauses number word) H → va_D A (wM cI cZ u w told read isK undoes text texted seen seS seB seP at_ start clauses number word) → va_S A s.heap H locs → lv_has ls 9 [(0, .ref (u 0)), (1, .int person), (2, .int rumour), (3, .int x24_3), (4, .int (nI i)), (5, .int ((x_X7_meet_46 w told person i).1)), (6, .int ((x_X7_meet_46 w told person i).2)), (7, .int (nI ((told 0).toNatClampNeg)))] → W p l e rm_X7_meet s m args below meth c H locs 0 0 Q (F0 m 148 ls [.int (v_X7_meet_140_0 w told person rumour i)]) := by
                intro H locs ls hP hD hS hl
                refine lv_istore (lv' := [(7, .int (v_X7_meet_140_0 w told person rumour i)), (0, .ref (u 0)), (1, .int person), (2, .int rumour), (3, .int x24_3), (4, .int (nI i)), (5, .int ((x_X7_meet_46 w told person i).1)), (6, .int ((x_X7_meet_46 w told person i).2))]) hx hb dX7_meet_148 hl (by decide) rfl (fun ls hl => ?_)
                refine lv_iload hx hb dX7_meet_150 (lv_at hl 0 rfl) ?_
                have J152 : ∀ (H : Heap) (locs : List Loc) (ls : Array Slot), va_P D vwCl (wM cI cZ u w told read isK undoes text texted seen seS seB seP at_ start clauses number word) H → va_D A (wM cI cZ u w told read isK undoes text texted seen seS seB seP at_ start clauses number word) → va_S A s.heap H locs → lv_has ls 9 [(0, .ref (u 0)), (1, .int person), (2, .int rumour), (3, .int x24_3), (4, .int (nI i)), (5, .int ((x_X7_meet_46 w told person i).1)), (6, .int ((x_X7_meet_46 w told person i).2)), (7, .int (v_X7_meet_140_0 w told person rumour i))] → W p l e rm_X7_meet s m args below meth c H locs 0 0 Q (F0 m 178 ls [.int (v_X7_meet_152_0 w told person rumour i x24_3)]) := by
                  intro H locs ls hP hD hS hl
                  refine lv_istore_n (lv' := [(3, .int (v_X7_meet_152_0 w told person rumour i x24_3)), (0, .ref (u 0)), (1, .int person), (2, .int rumour), (4, .int (nI i)), (5, .int ((x_X7_meet_46 w told person i).1)), (6, .int ((x_X7_meet_46 w told person i).2)), (7, .int (v_X7_meet_140_0 w told person rumour i))]) hx hb dX7_meet_178 rfl hl (by decide) rfl (fun ls hl => ?_)
                  refine lv_iinc (v := (nI (i + 1))) (lv' := [(4, .int (nI (i + 1))), (3, .int (v_X7_meet_152_0 w told person rumour i x24_3)), (0, .ref (u 0)), (1, .int person), (2, .int rumour), (5, .int ((x_X7_meet_46 w told person i).1)), (6, .int ((x_X7_meet_46 w told person i).2)), (7, .int (v_X7_meet_140_0 w told person rumour i))]) hx hb dX7_meet_179 hl (k := 4) rfl (nI_1 i) (by decide) rfl (fun ls hl => ?_)
                  refine lv_goto (tgt := 24) hx hb dX7_meet_182 (by decide) ?_
                  have hb24 : nx_X7_meet_24 w told person rumour i x24_3 = (v_X7_meet_152_0 w told person rumour i x24_3) := rfl
                  have hs24 : (lp (fun iz z => nx_X7_meet_24 w told person rumour iz z) (-1) (i + 1) : Int32) = nx_X7_meet_24 w told person rumour i (lp (fun iz z => nx_X7_meet_24 w told person rumour iz z) (-1) i : Int32) := lp_succ _ _ _
                  rw [← ea24] at hs24
                  exact ih24 (i + 1) (v_X7_meet_152_0 w told person rumour i x24_3) (by omega) (hb24.symm.trans hs24.symm) _ _ _ hP hD hS (lv_sub hl [2, 3, 4, 1, 0] rfl)
                refine lv_if_eq (tgt := 177) hx hb dX7_meet_152 (by decide) (fun c_152 => ?_) (fun c_152 => ?_)
                · skip
                  refine lv_iload_n hx hb dX7_meet_177 rfl (lv_at hl 4 rfl) ?_
                  rw [show (v_X7_meet_152_0 w told person rumour i x24_3) = x24_3 from (if_pos c_152)] at J152
                  exact J152 _ _ _ hP hD hS (lv_sub hl [1, 2, 3, 4, 5, 6, 7, 0] rfl)
                · skip
                  refine lv_iload_n hx hb dX7_meet_155 rfl (lv_at hl 4 rfl) ?_
                  refine lv_iconst (v := (-1)) hx hb dX7_meet_156 (by decide) ?_
                  refine lv_icmp_eq (tgt := 172) hx hb dX7_meet_157 (by decide) (fun c_157 => ?_) (fun c_157 => ?_)
                  · skip
                    refine lv_iload hx hb dX7_meet_172 (lv_at hl 5 rfl) ?_
                    refine lv_goto (tgt := 178) hx hb dX7_meet_174 (by decide) ?_
                    rw [show (v_X7_meet_152_0 w told person rumour i x24_3) = (nI i) from ((if_neg c_152).trans (if_pos c_157))] at J152
                    exact J152 _ _ _ hP hD hS (lv_sub hl [1, 2, 3, 4, 5, 6, 7, 0] rfl)
                  · skip
                    refine lv_iload hx hb dX7_meet_160 (lv_at hl 5 rfl) ?_
                    refine ksi (As := [.int (nI i)]) (rest := []) ⟨hx, hb, hml, hown, hts⟩ hP hK hD hS hA hE (k_X7_ones l D cI cZ  (nI i)) (kcs hts kM_X7_ones (kin_27 _ (List.mem_of_getElem? (i := 1) rfl)) ⟨rfl, rfl⟩ ⟨Nat.le_of_ble_eq_true rfl, Nat.le_of_ble_eq_true rfl⟩) kBl_T kOk_T rfl hl.1 rfl (Nat.le_of_ble_eq_true rfl) dX7_meet_162 (fun H locs hP hD hS => ?_)
                    refine lv_iload_n hx hb dX7_meet_165 rfl (lv_at hl 4 rfl) ?_
                    refine ksi (As := [.int x24_3]) (rest := [.int (f_X7_ones (nI i))]) ⟨hx, hb, hml, hown, hts⟩ hP hK hD hS hA hE (k_X7_ones l D cI cZ  x24_3) (kcs hts kM_X7_ones (kin_27 _ (List.mem_of_getElem? (i := 1) rfl)) ⟨rfl, rfl⟩ ⟨Nat.le_of_ble_eq_true rfl, Nat.le_of_ble_eq_true rfl⟩) kBl_T kOk_T rfl hl.1 rfl (Nat.le_of_ble_eq_true rfl) dX7_meet_166 (fun H locs hP hD hS => ?_)
                    refine lv_icmp_ge (tgt := 177) hx hb dX7_meet_169 (by decide) (fun c_169 => ?_) (fun c_169 => ?_)
                    · skip
                      refine lv_iload_n hx hb dX7_meet_177 rfl (lv_at hl 4 rfl) ?_
                      rw [show (v_X7_meet_152_0 w told person rumour i x24_3) = x24_3 from ((if_neg c_152).trans ((if_neg c_157).trans (if_pos c_169)))] at J152
                      exact J152 _ _ _ hP hD hS (lv_sub hl [1, 2, 3, 4, 5, 6, 7, 0] rfl)
                    · skip
                      refine lv_iload hx hb dX7_meet_172 (lv_at hl 5 rfl) ?_
                      refine lv_goto (tgt := 178) hx hb dX7_meet_174 (by decide) ?_
                      rw [show (v_X7_meet_152_0 w told person rumour i x24_3) = (nI i) from ((if_neg c_152).trans ((if_neg c_157).trans (if_neg c_169)))] at J152
                      exact J152 _ _ _ hP hD hS (lv_sub hl [1, 2, 3, 4, 5, 6, 7, 0] rfl)
              refine lv_icmp_ne (tgt := 147) hx hb dX7_meet_140 (by decide) (fun c_140 => ?_) (fun c_140 => ?_)
              · skip
                refine lv_iconst (v := 0) hx hb dX7_meet_147 (by decide) ?_
                rw [show (v_X7_meet_140_0 w told person rumour i) = 0 from (if_neg c_140)] at J140
                exact J140 _ _ _ hP hD hS (lv_sub hl [0, 1, 2, 3, 4, 5, 6, 7] rfl)
              · skip
                refine lv_iconst (v := 1) hx hb dX7_meet_143 (by decide) ?_
                refine lv_goto (tgt := 148) hx hb dX7_meet_144 (by decide) ?_
                rw [show (v_X7_meet_140_0 w told person rumour i) = 1 from (if_pos c_140)] at J140
                exact J140 _ _ _ hP hD hS (lv_sub hl [0, 1, 2, 3, 4, 5, 6, 7] rfl)
            | succ k46 ih46 =>
              intro i1 x46_5 x46_6 hi46 ea46 H locs ls hP hD hS hl
              have hlt46 : i1 < (told 0).toNatClampNeg := by omega
              refine lv_iload hx hb dX7_meet_46 (lv_at hl 7 rfl) ?_
              refine lv_aload_n hx hb dX7_meet_48 rfl (lv_at hl 0 rfl) ?_
              refine va_get (D := D) (ci := 7) (v := .ref (u 2)) (C := RX7) (T := TX7) (N := 16) hx hb hts inlX7 hown hK hP 0 rfl rfl 1 (by decide) (kw hts kin_4 23 rfl) (fun _ h9 => h9) rfl dX7_meet_49 ?_
              refine lv_iconst (v := 0) hx hb dX7_meet_52 (by decide) ?_
              refine va_iald (cA := cI) (n := 59) (f := told) hx hb hK hP 2 0 rfl rfl ((kb.lit 0).in (by decide) (by decide)) dX7_meet_53 ?_
              show W p l e rm_X7_meet s m args below meth c H locs 0 0 Q (F0 m 54 ls [.int (told 0), .int (nI i1)])
              refine lv_icmp_ge (tgt := 129) hx hb dX7_meet_54 (by decide) (fun c_54 => absurd c_54 (klt_clamp hlt46)) (fun _ => ?_)
              refine lv_iload hx hb dX7_meet_57 (lv_at hl 4 rfl) ?_
              refine lv_iload hx hb dX7_meet_59 (lv_at hl 7 rfl) ?_
              refine ksi (As := [.int (nI i), .int (nI i1)]) (rest := []) ⟨hx, hb, hml, hown, hts⟩ hP hK hD hS hA hE (k_X7_has l D cI cZ  (nI i) (nI i1)) (kcs hts kM_X7_has (kin_29 _ (List.mem_of_getElem? (i := 13) rfl)) ⟨rfl, rfl⟩ ⟨Nat.le_of_ble_eq_true rfl, Nat.le_of_ble_eq_true rfl⟩) kBl_T kOk_T rfl hl.1 rfl (Nat.le_of_ble_eq_true rfl) dX7_meet_61 (fun H locs hP hD hS => ?_)
              have J64 : ∀ (H : Heap) (locs : List Loc) (ls : Array Slot), va_P D vwCl (wM cI cZ u w told read isK undoes text texted seen seS seB seP at_ start clauses number word) H → va_D A (wM cI cZ u w told read isK undoes text texted seen seS seB seP at_ start clauses number word) → va_S A s.heap H locs → lv_has ls 9 [(0, .ref (u 0)), (1, .int person), (2, .int rumour), (3, .int x24_3), (4, .int (nI i)), (5, .int x46_5), (6, .int x46_6), (7, .int (nI i1))] → W p l e rm_X7_meet s m args below meth c H locs 0 0 Q (F0 m 91 ls [.int (v_X7_meet_64_0 w person i i1 x46_5)]) := by
                intro H locs ls hP hD hS hl
                refine lv_istore (lv' := [(8, .int (v_X7_meet_64_0 w person i i1 x46_5)), (0, .ref (u 0)), (1, .int person), (2, .int rumour), (3, .int x24_3), (4, .int (nI i)), (5, .int x46_5), (6, .int x46_6), (7, .int (nI i1))]) hx hb dX7_meet_91 hl (by decide) rfl (fun ls hl => ?_)
                refine lv_iload hx hb dX7_meet_93 (lv_at hl 6 rfl) ?_
                refine lv_iload hx hb dX7_meet_95 (lv_at hl 0 rfl) ?_
                refine lv_ior hx hb dX7_meet_97 ?_
                refine lv_istore (lv' := [(5, .int (x46_5 ||| (v_X7_meet_64_0 w person i i1 x46_5))), (8, .int (v_X7_meet_64_0 w person i i1 x46_5)), (0, .ref (u 0)), (1, .int person), (2, .int rumour), (3, .int x24_3), (4, .int (nI i)), (6, .int x46_6), (7, .int (nI i1))]) hx hb dX7_meet_98 hl (by decide) rfl (fun ls hl => ?_)
                refine lv_iload hx hb dX7_meet_100 (lv_at hl 7 rfl) ?_
                refine lv_aload_n hx hb dX7_meet_102 rfl (lv_at hl 2 rfl) ?_
                refine va_get (D := D) (ci := 7) (v := .ref (u 1)) (C := RX7) (T := TX7) (N := 16) hx hb hts inlX7 hown hK hP 0 rfl rfl 0 (by decide) (kw hts kin_4 22 rfl) (fun _ h9 => h9) rfl dX7_meet_103 ?_
                refine lv_bipush (v := 61) hx hb dX7_meet_106 (by decide) ?_
                refine lv_bipush (v := 6) hx hb dX7_meet_108 (by decide) ?_
                refine lv_iload hx hb dX7_meet_110 (lv_at hl 8 rfl) ?_
                refine lv_imul hx hb dX7_meet_112 ?_
                refine lv_iadd hx hb dX7_meet_113 ?_
                refine lv_iload_n hx hb dX7_meet_114 rfl (lv_at hl 3 rfl) ?_
                refine lv_iadd hx hb dX7_meet_115 ?_
                refine va_iald (cA := cI) (n := 1020) (f := w) hx hb hK hP 1 0 rfl rfl ((kb.add (kb.add (kb.lit 61) (kb.mul (c := 6) rfl (kloop hT0 (by decide) hlt46))) (kperson hT1 (by decide) c_5)).in (by decide) (by decide)) dX7_meet_116 ?_
                refine lv_iload hx hb dX7_meet_117 (lv_at hl 1 rfl) ?_
                refine lv_iand hx hb dX7_meet_119 ?_
                refine lv_ior hx hb dX7_meet_120 ?_
                refine lv_istore (lv' := [(6, .int (x46_6 ||| ((w (((61 + (6 * (nI i1))) + person).toNatClampNeg)) &&& (v_X7_meet_64_0 w person i i1 x46_5)))), (5, .int (x46_5 ||| (v_X7_meet_64_0 w person i i1 x46_5))), (8, .int (v_X7_meet_64_0 w person i i1 x46_5)), (0, .ref (u 0)), (1, .int person), (2, .int rumour), (3, .int x24_3), (4, .int (nI i)), (7, .int (nI i1))]) hx hb dX7_meet_121 hl (by decide) rfl (fun ls hl => ?_)
                refine lv_iinc (v := (nI (i1 + 1))) (lv' := [(7, .int (nI (i1 + 1))), (6, .int (x46_6 ||| ((w (((61 + (6 * (nI i1))) + person).toNatClampNeg)) &&& (v_X7_meet_64_0 w person i i1 x46_5)))), (5, .int (x46_5 ||| (v_X7_meet_64_0 w person i i1 x46_5))), (8, .int (v_X7_meet_64_0 w person i i1 x46_5)), (0, .ref (u 0)), (1, .int person), (2, .int rumour), (3, .int x24_3), (4, .int (nI i))]) hx hb dX7_meet_123 hl (k := 8) rfl (nI_1 i1) (by decide) rfl (fun ls hl => ?_)
                refine lv_goto (tgt := 46) hx hb dX7_meet_126 (by decide) ?_
                have hb46 : nx_X7_meet_46 w person i i1 x46_5 x46_6 = ((x46_5 ||| (v_X7_meet_64_0 w person i i1 x46_5)), (x46_6 ||| ((w (((61 + (6 * (nI i1))) + person).toNatClampNeg)) &&& (v_X7_meet_64_0 w person i i1 x46_5)))) := rfl
                have hs46 : (lp (fun iz z => nx_X7_meet_46 w person i iz z.1 z.2) (0, 0) (i1 + 1) : Int32 × Int32) = nx_X7_meet_46 w person i i1 ((lp (fun iz z => nx_X7_meet_46 w person i iz z.1 z.2) (0, 0) i1 : Int32 × Int32).1) ((lp (fun iz z => nx_X7_meet_46 w person i iz z.1 z.2) (0, 0) i1 : Int32 × Int32).2) := lp_succ _ _ _
                rw [← ea46] at hs46
                exact ih46 (i1 + 1) (x46_5 ||| (v_X7_meet_64_0 w person i i1 x46_5)) (x46_6 ||| ((w (((61 + (6 * (nI i1))) + person).toNatClampNeg)) &&& (v_X7_meet_64_0 w person i i1 x46_5))) (by omega) (hb46.symm.trans hs46.symm) _ _ _ hP hD hS (lv_sub hl [4, 5, 6, 7, 8, 2, 1, 0] rfl)
              refine lv_if_eq (tgt := 90) hx hb dX7_meet_64 (by decide) (fun c_64 => ?_) (fun c_64 => ?_)
              · skip
                refine lv_iconst (v := 0) hx hb dX7_meet_90 (by decide) ?_
                rw [show (v_X7_meet_64_0 w person i i1 x46_5) = 0 from (if_pos c_64)] at J64
                exact J64 _ _ _ hP hD hS (lv_sub hl [0, 1, 2, 3, 4, 5, 6, 7] rfl)
              · skip
                refine lv_aload_n hx hb dX7_meet_67 rfl (lv_at hl 0 rfl) ?_
                refine va_get (D := D) (ci := 7) (v := .ref (u 1)) (C := RX7) (T := TX7) (N := 16) hx hb hts inlX7 hown hK hP 0 rfl rfl 0 (by decide) (kw hts kin_4 22 rfl) (fun _ h9 => h9) rfl dX7_meet_68 ?_
                refine lv_bipush (v := 37) hx hb dX7_meet_71 (by decide) ?_
                refine lv_bipush (v := 6) hx hb dX7_meet_73 (by decide) ?_
                refine lv_iload hx hb dX7_meet_75 (lv_at hl 7 rfl) ?_
                refine lv_imul hx hb dX7_meet_77 ?_
                refine lv_iadd hx hb dX7_meet_78 ?_
                refine lv_iload_n hx hb dX7_meet_79 rfl (lv_at hl 1 rfl) ?_
                refine lv_iadd hx hb dX7_meet_80 ?_
                refine va_iald (cA := cI) (n := 1020) (f := w) hx hb hK hP 1 0 rfl rfl ((kb.add (kb.add (kb.lit 37) (kb.mul (c := 6) rfl (kloop hT0 (by decide) hlt46))) (kperson hT1 (by decide) c_5)).in (by decide) (by decide)) dX7_meet_81 ?_
                refine lv_iload hx hb dX7_meet_82 (lv_at hl 5 rfl) ?_
                refine lv_iconst (v := (-1)) hx hb dX7_meet_84 (by decide) ?_
                refine lv_ixor hx hb dX7_meet_85 ?_
                refine lv_iand hx hb dX7_meet_86 ?_
                refine lv_goto (tgt := 91) hx hb dX7_meet_87 (by decide) ?_
                rw [show (v_X7_meet_64_0 w person i i1 x46_5) = ((w (((37 + (6 * (nI i1))) + person).toNatClampNeg)) &&& (x46_5 ^^^ (-1))) from (if_neg c_64)] at J64
                exact J64 _ _ _ hP hD hS (lv_sub hl [0, 1, 2, 3, 4, 5, 6, 7] rfl)
          exact lp46 ((told 0).toNatClampNeg) 0 0 0 (Nat.zero_add _) (lp_zero _ _).symm _ _ _ hP hD hS (lv_sub hl [3, 4, 5, 6, 7, 2, 1, 0] rfl)
      exact lp24 ((1 <<< ((told 0) &&& 31)).toNatClampNeg) 0 (-1) (Nat.zero_add _) (lp_zero _ _).symm _ _ _ hP hD hS (lv_sub hl [2, 3, 4, 1, 0] rfl)
    · skip
      refine lv_bipush (v := (-2)) hx hb dX7_meet_16 (by decide) ?_
      have hf : (f_X7_meet w told person rumour) = (-2) := ((if_neg c_5).trans (if_pos c_13))
      rw [hf] at hret
      exact hret _ _ _ _ hP hS dX7_meet_18
