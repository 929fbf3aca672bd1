def nx_X7_copy_2 (from_ : Int32) (to_ : Int32) (i : Nat) (y2_w : Nat → Int32) : (Nat → Int32) := (upd y2_w ((to_ + (nI i)).toNatClampNeg) (y2_w ((from_ + (nI i)).toNatClampNeg)))
def x_X7_copy_2 (w : Nat → Int32) (from_ : Int32) (to_ : Int32) : (Nat → Int32) := lp (fun iz z => nx_X7_copy_2 from_ to_ iz z) w 85
def f_X7_copy (w : Nat → Int32) (from_ : Int32) (to_ : Int32) : (Nat → Int32) := (x_X7_copy_2 w from_ to_)
abbrev rm_X7_copy : Room := { frames := 0, cells := 0, slots := 0, locals := 0 }
set_option maxRecDepth 100000 in
set_option maxHeartbeats 4000000 in
theorem k_X7_copy (l : Launch) (D : va_G) (cI cZ : ClassId) (u : Nat → Nat) (w : Nat → Int32) (told : Nat → Int32) (read : Nat → Int32) (isK : Nat → Int32) (undoes : Int32) (text : Nat → Int32) (texted : Int32) (seen : Int32) (seS : Nat → Int32) (seB : Nat → Int32) (seP : Nat → Int32) (at_ : Int32) (start : Int32) (clauses : Int32) (number : Int32) (word : Int64) (from_ : Int32) (to_ : Int32) (h_from_ : kb from_ 0 936) (h_to_ : kb to_ 0 936) : CV l D (kTy cI cZ) kT yX7_copy (.code yX7_copy cX7_copy 4 none :: wsL_law) rm_X7_copy [.ref (u 0), .int from_, .int to_] (wM cI cZ u w told read isK undoes text texted seen seS seB seP at_ start clauses number word) (wM cI cZ u (f_X7_copy w from_ to_) told read isK undoes text texted seen seS seB seP at_ start clauses number word) := by
  refine CV.of (cc := cX7_copy) (maxL := 4) (by decide) rfl (Nat.le_of_ble_eq_true rfl) ?_
  intro p e s m args below meth c A Q ls hx hb hml hts0 hown hA hP hK hD hE hl hret
  have hts : ∀ w ∈ wsL_law, w.before args s = true := fun w h => hts0 w (List.mem_cons_of_mem _ h)
  clear hts0
  have hown : s.vm.findClass RX7 = some m.cls := hown
  have hl : lv_has ls 4 [(0, .ref (u 0)), (1, .int from_), (2, .int to_)] := hl
  have hS : va_S A s.heap s.heap [] := va_S.rf
  revert hP hS
  suffices hgo : ∀ (H : Heap) (locs : List Loc), va_P D vwCl (wM cI cZ u w told read isK undoes text texted seen seS seB seP at_ start clauses number word) H → va_S A s.heap H locs → W p l e rm_X7_copy s m args below meth c H locs 0 0 Q (F0 m 0 ls []) from fun a b => hgo _ _ a b
  intro H locs hP hS
  refine lv_iconst (v := 0) hx hb dX7_copy_0 (by decide) ?_
  refine lv_istore_n (lv' := [(3, .int 0), (0, .ref (u 0)), (1, .int from_), (2, .int to_)]) hx hb dX7_copy_1 rfl hl (by decide) rfl (fun ls hl => ?_)
  have lp2 : ∀ (k2 i : Nat) (y2_w : Nat → Int32), i + k2 = 85 → y2_w = lp (fun iz z => nx_X7_copy_2 from_ to_ iz z) w i → ∀ (H : Heap) (locs : List Loc) (ls : Array Slot), va_P D vwCl (wM cI cZ u y2_w told read isK undoes text texted seen seS seB seP at_ start clauses number word) H → va_D A (wM cI cZ u y2_w told read isK undoes text texted seen seS seB seP at_ start clauses number word) → va_S A s.heap H locs → lv_has ls 4 [(0, .ref (u 0)), (1, .int from_), (2, .int to_), (3, .int (nI i))] → W p l e rm_X7_copy s m args below meth c H locs 0 0 Q (F0 m 2 ls []) := by
    intro k2
    induction k2 with
    | zero =>
      intro i y2_w hi2 ea2 H locs ls hP hD hS hl
      have hi2 : 85 = i := by omega
      subst hi2
      have ea2 : y2_w = (x_X7_copy_2 w from_ to_) := ea2
      subst ea2
      refine lv_iload_n hx hb dX7_copy_2 rfl (lv_at hl 3 rfl) ?_
      refine lv_bipush (v := 85) hx hb dX7_copy_3 (by decide) ?_
      refine lv_icmp_ge (tgt := 30) hx hb dX7_copy_5 (by decide) (fun _ => ?_) (fun c_5 => absurd (nI_le (Nat.le_refl _) (by decide)) c_5)
      have hf : (f_X7_copy w from_ to_) = (x_X7_copy_2 w from_ to_) := rfl
      rw [hf] at hret
      exact hret _ _ _ _ hP hS dX7_copy_30
    | succ k2 ih2 =>
      intro i y2_w hi2 ea2 H locs ls hP hD hS hl
      have hlt2 : i < 85 := by omega
      refine lv_iload_n hx hb dX7_copy_2 rfl (lv_at hl 3 rfl) ?_
      refine lv_bipush (v := 85) hx hb dX7_copy_3 (by decide) ?_
      refine lv_icmp_ge (tgt := 30) hx hb dX7_copy_5 (by decide) (fun c_5 => absurd c_5 (nI_ge hlt2 (by decide))) (fun _ => ?_)
      refine lv_aload_n hx hb dX7_copy_8 rfl (lv_at hl 0 rfl) ?_
      refine va_get (D := D) (ci := 7) (v := .ref (u 1)) (C := RX7) (T := TX7) (N := 16) hx hb hts inlX7 hown hK hP 0 rfl rfl 0 (by decide) (kw hts kin_4 22 rfl) (fun _ h9 => h9) rfl dX7_copy_9 ?_
      refine lv_iload_n hx hb dX7_copy_12 rfl (lv_at hl 2 rfl) ?_
      refine lv_iload_n hx hb dX7_copy_13 rfl (lv_at hl 3 rfl) ?_
      refine lv_iadd hx hb dX7_copy_14 ?_
      refine lv_aload_n hx hb dX7_copy_15 rfl (lv_at hl 0 rfl) ?_
      refine va_get (D := D) (ci := 7) (v := .ref (u 1)) (C := RX7) (T := TX7) (N := 16) hx hb hts inlX7 hown hK hP 0 rfl rfl 0 (by decide) (kw hts kin_4 22 rfl) (fun _ h9 => h9) rfl dX7_copy_16 ?_
      refine lv_iload_n hx hb dX7_copy_19 rfl (lv_at hl 1 rfl) ?_
      refine lv_iload_n hx hb dX7_copy_20 rfl (lv_at hl 3 rfl) ?_
      refine lv_iadd hx hb dX7_copy_21 ?_
      refine va_iald (cA := cI) (n := 1020) (f := y2_w) hx hb hK hP 1 0 rfl rfl ((kb.add h_from_ (kb.mk hlt2)).in (by decide) (by decide)) dX7_copy_22 ?_
      refine va_iast (cA := cI) (n := 1020) (f := y2_w) hx hb hK hP hD hS 1 0 rfl rfl ((kb.add h_to_ (kb.mk hlt2)).in (by decide) (by decide)) dX7_copy_23 (fun H locs hP hD hS => ?_)
      have hP : va_P D vwCl (wM cI cZ u (upd y2_w ((to_ + (nI i)).toNatClampNeg) (y2_w ((from_ + (nI i)).toNatClampNeg))) told read isK undoes text texted seen seS seB seP at_ start clauses number word) H := hP
      have hD : va_D A (wM cI cZ u (upd y2_w ((to_ + (nI i)).toNatClampNeg) (y2_w ((from_ + (nI i)).toNatClampNeg))) told read isK undoes text texted seen seS seB seP at_ start clauses number word) := hD
      refine lv_iinc (v := (nI (i + 1))) (lv' := [(3, .int (nI (i + 1))), (0, .ref (u 0)), (1, .int from_), (2, .int to_)]) hx hb dX7_copy_24 hl (k := 3) rfl (nI_1 i) (by decide) rfl (fun ls hl => ?_)
      refine lv_goto (tgt := 2) hx hb dX7_copy_27 (by decide) ?_
      have hb2 : nx_X7_copy_2 from_ to_ i y2_w = (upd y2_w ((to_ + (nI i)).toNatClampNeg) (y2_w ((from_ + (nI i)).toNatClampNeg))) := rfl
      have hs2 : (lp (fun iz z => nx_X7_copy_2 from_ to_ iz z) w (i + 1) : (Nat → Int32)) = nx_X7_copy_2 from_ to_ i (lp (fun iz z => nx_X7_copy_2 from_ to_ iz z) w i : (Nat → Int32)) := lp_succ _ _ _
      rw [← ea2] at hs2
      exact ih2 (i + 1) (upd y2_w ((to_ + (nI i)).toNatClampNeg) (y2_w ((from_ + (nI i)).toNatClampNeg))) (by omega) (hb2.symm.trans hs2.symm) _ _ _ hP hD hS (lv_sub hl [1, 2, 3, 0] rfl)
  exact lp2 85 0 w (Nat.zero_add _) (lp_zero _ _).symm _ _ _ hP hD hS (lv_sub hl [1, 2, 3, 0] rfl)
