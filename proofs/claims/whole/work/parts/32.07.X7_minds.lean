def nx_X7_minds_11 (i : Nat) (y11_w : Nat → Int32) : (Nat → Int32) := (upd y11_w ((340 + (nI i)).toNatClampNeg) (y11_w (((340 + (nI i)) + 85).toNatClampNeg)))
def x_X7_minds_11 (w : Nat → Int32) : (Nat → Int32) := lp (fun iz z => nx_X7_minds_11 iz z) w 595
def v_X7_minds_6_0 (w : Nat → Int32) (undoes : Int32) : Nat → Int32 := if undoes = 8 then (x_X7_minds_11 w) else w
def v_X7_minds_6_1 (undoes : Int32) : Int32 := if undoes = 8 then (undoes - 1) else undoes
def f_X7_minds (w : Nat → Int32) (undoes : Int32) : (Nat → Int32) × Int32 := ((f_X7_copy (v_X7_minds_6_0 w undoes) 0 (340 + (85 * (v_X7_minds_6_1 undoes)))), ((v_X7_minds_6_1 undoes) + 1))
abbrev rm_X7_minds : Room := { frames := 1, cells := 0, slots := 0, locals := 23 }
theorem kminds {undoes : Int32} (h : kb undoes 0 9) : kb (v_X7_minds_6_1 undoes) 0 8 := by
  unfold v_X7_minds_6_1
  split
  · rename_i e
    exact (kb.sub1 (lo := 0) (hi := 8) (kpos h (by rw [e]; decide)))
  · rename_i e
    exact kne h (by decide) e
set_option maxRecDepth 100000 in
set_option maxHeartbeats 4000000 in
theorem k_X7_minds (l : Launch) (D : va_G) (cI cZ : ClassId) (u : Nat → Nat) (w : Nat → Int32) (told : Nat → Int32) (read : Nat → Int32) (isK : Nat → Int32) (undoes : Int32) (text : Nat → Int32) (texted : Int32) (seen : Int32) (seS : Nat → Int32) (seB : Nat → Int32) (seP : Nat → Int32) (at_ : Int32) (start : Int32) (clauses : Int32) (number : Int32) (word : Int64) (h_undoes : kb undoes 0 9) : CV l D (kTy cI cZ) kT yX7_minds (.code yX7_minds cX7_minds 2 none :: wsL_law) rm_X7_minds [.ref (u 0)] (wM cI cZ u w told read isK undoes text texted seen seS seB seP at_ start clauses number word) (wM cI cZ u ((f_X7_minds w undoes).1) told read isK ((f_X7_minds w undoes).2) text texted seen seS seB seP at_ start clauses number word) := by
  refine CV.of (cc := cX7_minds) (maxL := 2) (by decide) rfl (Nat.le_of_ble_eq_true rfl) ?_
  intro p e s m args below meth c A Q ls hx hb hml hts0 hown hA hP hK hD hE hl hret
  have hts : ∀ w ∈ wsL_law, w.before args s = true := fun w h => hts0 w (List.mem_cons_of_mem _ h)
  clear hts0
  have hown : s.vm.findClass RX7 = some m.cls := hown
  have hl : lv_has ls 2 [(0, .ref (u 0))] := hl
  have hS : va_S A s.heap s.heap [] := va_S.rf
  revert hP hS
  suffices hgo : ∀ (H : Heap) (locs : List Loc), va_P D vwCl (wM cI cZ u w told read isK undoes text texted seen seS seB seP at_ start clauses number word) H → va_S A s.heap H locs → W p l e rm_X7_minds s m args below meth c H locs 0 0 Q (F0 m 0 ls []) from fun a b => hgo _ _ a b
  intro H locs hP hS
  refine lv_aload_n hx hb dX7_minds_0 rfl (lv_at hl 0 rfl) ?_
  refine va_get (D := D) (ci := 7) (v := .int undoes) (C := RX7) (T := TX7) (N := 16) hx hb hts inlX7 hown hK hP 0 rfl rfl 4 (by decide) (kw hts kin_16 20 rfl) (fun _ h9 => h9) rfl dX7_minds_1 ?_
  refine lv_bipush (v := 8) hx hb dX7_minds_4 (by decide) ?_
  have J6 : ∀ (H : Heap) (locs : List Loc) (ls : Array Slot), va_P D vwCl (wM cI cZ u (v_X7_minds_6_0 w undoes) told read isK (v_X7_minds_6_1 undoes) text texted seen seS seB seP at_ start clauses number word) H → va_D A (wM cI cZ u (v_X7_minds_6_0 w undoes) told read isK (v_X7_minds_6_1 undoes) text texted seen seS seB seP at_ start clauses number word) → va_S A s.heap H locs → lv_has ls 2 [(0, .ref (u 0))] → W p l e rm_X7_minds s m args below meth c H locs 0 0 Q (F0 m 57 ls []) := by
    intro H locs ls hP hD hS hl
    refine lv_aload_n hx hb dX7_minds_57 rfl (lv_at hl 0 rfl) ?_
    refine lv_iconst (v := 0) hx hb dX7_minds_58 (by decide) ?_
    refine lv_sipush (v := 340) hx hb dX7_minds_59 (by decide) ?_
    refine lv_bipush (v := 85) hx hb dX7_minds_62 (by decide) ?_
    refine lv_aload_n hx hb dX7_minds_64 rfl (lv_at hl 0 rfl) ?_
    refine va_get (D := D) (ci := 7) (v := .int (v_X7_minds_6_1 undoes)) (C := RX7) (T := TX7) (N := 16) hx hb hts inlX7 hown hK hP 0 rfl rfl 4 (by decide) (kw hts kin_16 20 rfl) (fun _ h9 => h9) rfl dX7_minds_65 ?_
    refine lv_imul hx hb dX7_minds_68 ?_
    refine lv_iadd hx hb dX7_minds_69 ?_
    refine kvv (As := [.int 0, .int (340 + (85 * (v_X7_minds_6_1 undoes)))]) (rest := []) (q0 := 0) (ci := 7) ⟨hx, hb, hml, hown, hts⟩ hP hK hD hS hA hE (k_X7_copy l D cI cZ  u (v_X7_minds_6_0 w undoes) told read isK (v_X7_minds_6_1 undoes) text texted seen seS seB seP at_ start clauses number word 0 (340 + (85 * (v_X7_minds_6_1 undoes))) ((kb.lit 0).wide (by decide) (by decide)) ((kb.add (kb.lit 340) (kb.mul (c := 85) rfl (kminds h_undoes))).wide (by decide) (by decide))) (kcv hts kM_X7_copy (kin_24 _ (List.mem_of_getElem? (i := 19) rfl)) ⟨rfl, rfl⟩ ⟨Nat.le_of_ble_eq_true rfl, Nat.le_of_ble_eq_true rfl⟩) kBl_T kOk_T (wM cI cZ u (f_X7_copy (v_X7_minds_6_0 w undoes) 0 (340 + (85 * (v_X7_minds_6_1 undoes)))) told read isK (v_X7_minds_6_1 undoes) text texted seen seS seB seP at_ start clauses number word) (cut_m_m cI cZ u (v_X7_minds_6_0 w undoes) told read isK (v_X7_minds_6_1 undoes) text texted seen seS seB seP at_ start clauses number word (f_X7_copy (v_X7_minds_6_0 w undoes) 0 (340 + (85 * (v_X7_minds_6_1 undoes)))) told read isK (v_X7_minds_6_1 undoes) text texted seen seS seB seP at_ start clauses number word).1 (cut_m_m cI cZ u (v_X7_minds_6_0 w undoes) told read isK (v_X7_minds_6_1 undoes) text texted seen seS seB seP at_ start clauses number word (f_X7_copy (v_X7_minds_6_0 w undoes) 0 (340 + (85 * (v_X7_minds_6_1 undoes)))) told read isK (v_X7_minds_6_1 undoes) text texted seen seS seB seP at_ start clauses number word).2 rfl rfl rfl rfl hl.1 rfl (Nat.le_of_ble_eq_true rfl) dX7_minds_70 (fun H locs hP hD hS => ?_)
    refine lv_aload_n hx hb dX7_minds_73 rfl (lv_at hl 0 rfl) ?_
    refine lv_dup hx hb dX7_minds_74 rfl ?_
    refine va_get (D := D) (ci := 7) (v := .int (v_X7_minds_6_1 undoes)) (C := RX7) (T := TX7) (N := 16) hx hb hts inlX7 hown hK hP 0 rfl rfl 4 (by decide) (kw hts kin_16 20 rfl) (fun _ h9 => h9) rfl dX7_minds_75 ?_
    refine lv_iconst (v := 1) hx hb dX7_minds_78 (by decide) ?_
    refine lv_iadd hx hb dX7_minds_79 ?_
    refine va_put (D := D) (ci := 7) (v := .int ((v_X7_minds_6_1 undoes) + 1)) (ty := .int) (C := RX7) (T := TX7) (N := 16) hx hb hts inlX7 tyX7 tyX7_ok nmX7 hown hK hP hD hS 0 rfl rfl 4 (by decide) (kw hts kin_16 20 rfl) (fun _ h9 => h9) rfl (by decide +kernel) rfl rfl (Nat.le_of_ble_eq_true rfl) dX7_minds_80 (fun H locs hP hD hS => ?_)
    have hP : va_P D vwCl (wM cI cZ u (f_X7_copy (v_X7_minds_6_0 w undoes) 0 (340 + (85 * (v_X7_minds_6_1 undoes)))) told read isK ((v_X7_minds_6_1 undoes) + 1) text texted seen seS seB seP at_ start clauses number word) H := hP
    have hD : va_D A (wM cI cZ u (f_X7_copy (v_X7_minds_6_0 w undoes) 0 (340 + (85 * (v_X7_minds_6_1 undoes)))) told read isK ((v_X7_minds_6_1 undoes) + 1) text texted seen seS seB seP at_ start clauses number word) := hD
    have hf : (f_X7_minds w undoes) = ((f_X7_copy (v_X7_minds_6_0 w undoes) 0 (340 + (85 * (v_X7_minds_6_1 undoes)))), ((v_X7_minds_6_1 undoes) + 1)) := rfl
    rw [hf] at hret
    dsimp only at hret
    exact hret _ _ _ _ hP hS dX7_minds_83
  refine lv_icmp_ne (tgt := 57) hx hb dX7_minds_6 (by decide) (fun c_6 => ?_) (fun c_6 => ?_)
  · skip
    rw [show (v_X7_minds_6_0 w undoes) = w from (if_neg c_6)] at J6
    rw [show (v_X7_minds_6_1 undoes) = undoes from (if_neg c_6)] at J6
    exact J6 _ _ _ hP hD hS (lv_sub hl [0] rfl)
  · skip
    refine lv_iconst (v := 0) hx hb dX7_minds_9 (by decide) ?_
    refine lv_istore_n (lv' := [(1, .int 0), (0, .ref (u 0))]) hx hb dX7_minds_10 rfl hl (by decide) rfl (fun ls hl => ?_)
    have lp11 : ∀ (k11 i : Nat) (y11_w : Nat → Int32), i + k11 = 595 → y11_w = lp (fun iz z => nx_X7_minds_11 iz z) w i → ∀ (H : Heap) (locs : List Loc) (ls : Array Slot), va_P D vwCl (wM cI cZ u y11_w told read isK undoes text texted seen seS seB seP at_ start clauses number word) H → va_D A (wM cI cZ u y11_w told read isK undoes text texted seen seS seB seP at_ start clauses number word) → va_S A s.heap H locs → lv_has ls 2 [(0, .ref (u 0)), (1, .int (nI i))] → W p l e rm_X7_minds s m args below meth c H locs 0 0 Q (F0 m 11 ls []) := by
      intro k11
      induction k11 with
      | zero =>
        intro i y11_w hi11 ea11 H locs ls hP hD hS hl
        have hi11 : 595 = i := by omega
        subst hi11
        have ea11 : y11_w = (x_X7_minds_11 w) := ea11
        subst ea11
        refine lv_iload_n hx hb dX7_minds_11 rfl (lv_at hl 1 rfl) ?_
        refine lv_sipush (v := 595) hx hb dX7_minds_12 (by decide) ?_
        refine lv_icmp_ge (tgt := 47) hx hb dX7_minds_15 (by decide) (fun _ => ?_) (fun c_15 => absurd (nI_le (Nat.le_refl _) (by decide)) c_15)
        refine lv_aload_n hx hb dX7_minds_47 rfl (lv_at hl 0 rfl) ?_
        refine lv_dup hx hb dX7_minds_48 rfl ?_
        refine va_get (D := D) (ci := 7) (v := .int undoes) (C := RX7) (T := TX7) (N := 16) hx hb hts inlX7 hown hK hP 0 rfl rfl 4 (by decide) (kw hts kin_16 20 rfl) (fun _ h9 => h9) rfl dX7_minds_49 ?_
        refine lv_iconst (v := 1) hx hb dX7_minds_52 (by decide) ?_
        refine lv_isub hx hb dX7_minds_53 ?_
        refine va_put (D := D) (ci := 7) (v := .int (undoes - 1)) (ty := .int) (C := RX7) (T := TX7) (N := 16) hx hb hts inlX7 tyX7 tyX7_ok nmX7 hown hK hP hD hS 0 rfl rfl 4 (by decide) (kw hts kin_16 20 rfl) (fun _ h9 => h9) rfl (by decide +kernel) rfl rfl (Nat.le_of_ble_eq_true rfl) dX7_minds_54 (fun H locs hP hD hS => ?_)
        have hP : va_P D vwCl (wM cI cZ u (x_X7_minds_11 w) told read isK (undoes - 1) text texted seen seS seB seP at_ start clauses number word) H := hP
        have hD : va_D A (wM cI cZ u (x_X7_minds_11 w) told read isK (undoes - 1) text texted seen seS seB seP at_ start clauses number word) := hD
        rw [show (v_X7_minds_6_0 w undoes) = (x_X7_minds_11 w) from (if_pos c_6)] at J6
        rw [show (v_X7_minds_6_1 undoes) = (undoes - 1) from (if_pos c_6)] at J6
        exact J6 _ _ _ hP hD hS (lv_sub hl [0] rfl)
      | succ k11 ih11 =>
        intro i y11_w hi11 ea11 H locs ls hP hD hS hl
        have hlt11 : i < 595 := by omega
        refine lv_iload_n hx hb dX7_minds_11 rfl (lv_at hl 1 rfl) ?_
        refine lv_sipush (v := 595) hx hb dX7_minds_12 (by decide) ?_
        refine lv_icmp_ge (tgt := 47) hx hb dX7_minds_15 (by decide) (fun c_15 => absurd c_15 (nI_ge hlt11 (by decide))) (fun _ => ?_)
        refine lv_aload_n hx hb dX7_minds_18 rfl (lv_at hl 0 rfl) ?_
        refine va_get (D := D) (ci := 7) (v := .ref (u 1)) (C := RX7) (T := TX7) (N := 16) hx hb hts inlX7 hown hK hP 0 rfl rfl 0 (by decide) (kw hts kin_4 22 rfl) (fun _ h9 => h9) rfl dX7_minds_19 ?_
        refine lv_sipush (v := 340) hx hb dX7_minds_22 (by decide) ?_
        refine lv_iload_n hx hb dX7_minds_25 rfl (lv_at hl 1 rfl) ?_
        refine lv_iadd hx hb dX7_minds_26 ?_
        refine lv_aload_n hx hb dX7_minds_27 rfl (lv_at hl 0 rfl) ?_
        refine va_get (D := D) (ci := 7) (v := .ref (u 1)) (C := RX7) (T := TX7) (N := 16) hx hb hts inlX7 hown hK hP 0 rfl rfl 0 (by decide) (kw hts kin_4 22 rfl) (fun _ h9 => h9) rfl dX7_minds_28 ?_
        refine lv_sipush (v := 340) hx hb dX7_minds_31 (by decide) ?_
        refine lv_iload_n hx hb dX7_minds_34 rfl (lv_at hl 1 rfl) ?_
        refine lv_iadd hx hb dX7_minds_35 ?_
        refine lv_bipush (v := 85) hx hb dX7_minds_36 (by decide) ?_
        refine lv_iadd hx hb dX7_minds_38 ?_
        refine va_iald (cA := cI) (n := 1020) (f := y11_w) hx hb hK hP 1 0 rfl rfl ((kb.add (kb.add (kb.lit 340) (kb.mk hlt11)) (kb.lit 85)).in (by decide) (by decide)) dX7_minds_39 ?_
        refine va_iast (cA := cI) (n := 1020) (f := y11_w) hx hb hK hP hD hS 1 0 rfl rfl ((kb.add (kb.lit 340) (kb.mk hlt11)).in (by decide) (by decide)) dX7_minds_40 (fun H locs hP hD hS => ?_)
        have hP : va_P D vwCl (wM cI cZ u (upd y11_w ((340 + (nI i)).toNatClampNeg) (y11_w (((340 + (nI i)) + 85).toNatClampNeg))) told read isK undoes text texted seen seS seB seP at_ start clauses number word) H := hP
        have hD : va_D A (wM cI cZ u (upd y11_w ((340 + (nI i)).toNatClampNeg) (y11_w (((340 + (nI i)) + 85).toNatClampNeg))) told read isK undoes text texted seen seS seB seP at_ start clauses number word) := hD
        refine lv_iinc (v := (nI (i + 1))) (lv' := [(1, .int (nI (i + 1))), (0, .ref (u 0))]) hx hb dX7_minds_41 hl (k := 1) rfl (nI_1 i) (by decide) rfl (fun ls hl => ?_)
        refine lv_goto (tgt := 11) hx hb dX7_minds_44 (by decide) ?_
        have hb11 : nx_X7_minds_11 i y11_w = (upd y11_w ((340 + (nI i)).toNatClampNeg) (y11_w (((340 + (nI i)) + 85).toNatClampNeg))) := rfl
        have hs11 : (lp (fun iz z => nx_X7_minds_11 iz z) w (i + 1) : (Nat → Int32)) = nx_X7_minds_11 i (lp (fun iz z => nx_X7_minds_11 iz z) w i : (Nat → Int32)) := lp_succ _ _ _
        rw [← ea11] at hs11
        exact ih11 (i + 1) (upd y11_w ((340 + (nI i)).toNatClampNeg) (y11_w (((340 + (nI i)) + 85).toNatClampNeg))) (by omega) (hb11.symm.trans hs11.symm) _ _ _ hP hD hS (lv_sub hl [1, 0] rfl)
    exact lp11 595 0 w (Nat.zero_add _) (lp_zero _ _).symm _ _ _ hP hD hS (lv_sub hl [1, 0] rfl)
