def nx_X7_knownOfAll_4 (w : Nat → Int32) (i : Nat) (x4_1 : Int32) : Int32 := (x4_1 + (f_X7_ones (w ((37 + (nI i)).toNatClampNeg))))
def x_X7_knownOfAll_4 (w : Nat → Int32) : Int32 := lp (fun iz z => nx_X7_knownOfAll_4 w iz z) 0 24
def f_X7_knownOfAll (w : Nat → Int32) : Int32 := (x_X7_knownOfAll_4 w)
abbrev rm_X7_knownOfAll : Room := { frames := 1, cells := 0, slots := 0, locals := 22 }
set_option maxRecDepth 100000 in
set_option maxHeartbeats 4000000 in
theorem k_X7_knownOfAll (l : Launch) (D : va_G) (cI cZ : ClassId) (u : Nat → Nat) (w : Nat → Int32) (told : Nat → Int32) (read : Nat → Int32) (isK : Nat → Int32) (undoes : Int32) (text : Nat → Int32) (texted : Int32) (seen : Int32) (seS : Nat → Int32) (seB : Nat → Int32) (seP : Nat → Int32) (at_ : Int32) (start : Int32) (clauses : Int32) (number : Int32) (word : Int64) : CI l D (kTy cI cZ) kT yX7_knownOfAll (.code yX7_knownOfAll cX7_knownOfAll 3 (some .int) :: wsL_law) rm_X7_knownOfAll [.ref (u 0)] (wM cI cZ u w told read isK undoes text texted seen seS seB seP at_ start clauses number word) (wM cI cZ u w told read isK undoes text texted seen seS seB seP at_ start clauses number word) (f_X7_knownOfAll w) := by
  refine CI.of (cc := cX7_knownOfAll) (maxL := 3) (ty := .int) (by decide) rfl (Nat.le_of_ble_eq_true rfl) rfl ?_
  intro p e s m args below meth c A Q ls hx hb hml hts0 hown hA hP hK hD hE hl hret
  have hts : ∀ w ∈ wsL_law, w.before args s = true := fun w h => hts0 w (List.mem_cons_of_mem _ h)
  clear hts0
  have hown : s.vm.findClass RX7 = some m.cls := hown
  have hl : lv_has ls 3 [(0, .ref (u 0))] := hl
  have hS : va_S A s.heap s.heap [] := va_S.rf
  revert hP hS
  suffices hgo : ∀ (H : Heap) (locs : List Loc), va_P D vwCl (wM cI cZ u w told read isK undoes text texted seen seS seB seP at_ start clauses number word) H → va_S A s.heap H locs → W p l e rm_X7_knownOfAll s m args below meth c H locs 0 0 Q (F0 m 0 ls []) from fun a b => hgo _ _ a b
  intro H locs hP hS
  refine lv_iconst (v := 0) hx hb dX7_knownOfAll_0 (by decide) ?_
  refine lv_istore_n (lv' := [(1, .int 0), (0, .ref (u 0))]) hx hb dX7_knownOfAll_1 rfl hl (by decide) rfl (fun ls hl => ?_)
  refine lv_iconst (v := 0) hx hb dX7_knownOfAll_2 (by decide) ?_
  refine lv_istore_n (lv' := [(2, .int 0), (1, .int 0), (0, .ref (u 0))]) hx hb dX7_knownOfAll_3 rfl hl (by decide) rfl (fun ls hl => ?_)
  have lp4 : ∀ (k4 i : Nat) (x4_1 : Int32), i + k4 = 24 → x4_1 = lp (fun iz z => nx_X7_knownOfAll_4 w iz z) 0 i → ∀ (H : Heap) (locs : List Loc) (ls : Array Slot), va_P D vwCl (wM cI cZ u w told read isK undoes text texted seen seS seB seP at_ start clauses number word) H → va_D A (wM cI cZ u w told read isK undoes text texted seen seS seB seP at_ start clauses number word) → va_S A s.heap H locs → lv_has ls 3 [(0, .ref (u 0)), (1, .int x4_1), (2, .int (nI i))] → W p l e rm_X7_knownOfAll s m args below meth c H locs 0 0 Q (F0 m 4 ls []) := by
    intro k4
    induction k4 with
    | zero =>
      intro i x4_1 hi4 ea4 H locs ls hP hD hS hl
      have hi4 : 24 = i := by omega
      subst hi4
      have ea4 : x4_1 = (x_X7_knownOfAll_4 w) := ea4
      subst ea4
      refine lv_iload_n hx hb dX7_knownOfAll_4 rfl (lv_at hl 2 rfl) ?_
      refine lv_bipush (v := 24) hx hb dX7_knownOfAll_5 (by decide) ?_
      refine lv_icmp_ge (tgt := 31) hx hb dX7_knownOfAll_7 (by decide) (fun _ => ?_) (fun c_7 => absurd (nI_le (Nat.le_refl _) (by decide)) c_7)
      refine lv_iload_n hx hb dX7_knownOfAll_31 rfl (lv_at hl 1 rfl) ?_
      have hf : (f_X7_knownOfAll w) = (x_X7_knownOfAll_4 w) := rfl
      rw [hf] at hret
      exact hret _ _ _ _ hP hS dX7_knownOfAll_32
    | succ k4 ih4 =>
      intro i x4_1 hi4 ea4 H locs ls hP hD hS hl
      have hlt4 : i < 24 := by omega
      refine lv_iload_n hx hb dX7_knownOfAll_4 rfl (lv_at hl 2 rfl) ?_
      refine lv_bipush (v := 24) hx hb dX7_knownOfAll_5 (by decide) ?_
      refine lv_icmp_ge (tgt := 31) hx hb dX7_knownOfAll_7 (by decide) (fun c_7 => absurd c_7 (nI_ge hlt4 (by decide))) (fun _ => ?_)
      refine lv_iload_n hx hb dX7_knownOfAll_10 rfl (lv_at hl 1 rfl) ?_
      refine lv_aload_n hx hb dX7_knownOfAll_11 rfl (lv_at hl 0 rfl) ?_
      refine va_get (D := D) (ci := 7) (v := .ref (u 1)) (C := RX7) (T := TX7) (N := 16) hx hb hts inlX7 hown hK hP 0 rfl rfl 0 (by decide) (kw hts kin_4 22 rfl) (fun _ h9 => h9) rfl dX7_knownOfAll_12 ?_
      refine lv_bipush (v := 37) hx hb dX7_knownOfAll_15 (by decide) ?_
      refine lv_iload_n hx hb dX7_knownOfAll_17 rfl (lv_at hl 2 rfl) ?_
      refine lv_iadd hx hb dX7_knownOfAll_18 ?_
      refine va_iald (cA := cI) (n := 1020) (f := w) hx hb hK hP 1 0 rfl rfl ((kb.add (kb.lit 37) (kb.mk hlt4)).in (by decide) (by decide)) dX7_knownOfAll_19 ?_
      refine ksi (As := [.int (w ((37 + (nI i)).toNatClampNeg))]) (rest := [.int x4_1]) ⟨hx, hb, hml, hown, hts⟩ hP hK hD hS hA hE (k_X7_ones l D cI cZ  (w ((37 + (nI i)).toNatClampNeg))) (kcs hts kM_X7_ones (kin_27 _ (List.mem_of_getElem? (i := 1) rfl)) ⟨rfl, rfl⟩ ⟨Nat.le_of_ble_eq_true rfl, Nat.le_of_ble_eq_true rfl⟩) kBl_T kOk_T rfl hl.1 rfl (Nat.le_of_ble_eq_true rfl) dX7_knownOfAll_20 (fun H locs hP hD hS => ?_)
      refine lv_iadd hx hb dX7_knownOfAll_23 ?_
      refine lv_istore_n (lv' := [(1, .int (x4_1 + (f_X7_ones (w ((37 + (nI i)).toNatClampNeg))))), (0, .ref (u 0)), (2, .int (nI i))]) hx hb dX7_knownOfAll_24 rfl hl (by decide) rfl (fun ls hl => ?_)
      refine lv_iinc (v := (nI (i + 1))) (lv' := [(2, .int (nI (i + 1))), (1, .int (x4_1 + (f_X7_ones (w ((37 + (nI i)).toNatClampNeg))))), (0, .ref (u 0))]) hx hb dX7_knownOfAll_25 hl (k := 2) rfl (nI_1 i) (by decide) rfl (fun ls hl => ?_)
      refine lv_goto (tgt := 4) hx hb dX7_knownOfAll_28 (by decide) ?_
      have hb4 : nx_X7_knownOfAll_4 w i x4_1 = (x4_1 + (f_X7_ones (w ((37 + (nI i)).toNatClampNeg)))) := rfl
      have hs4 : (lp (fun iz z => nx_X7_knownOfAll_4 w iz z) 0 (i + 1) : Int32) = nx_X7_knownOfAll_4 w i (lp (fun iz z => nx_X7_knownOfAll_4 w iz z) 0 i : Int32) := lp_succ _ _ _
      rw [← ea4] at hs4
      exact ih4 (i + 1) (x4_1 + (f_X7_ones (w ((37 + (nI i)).toNatClampNeg)))) (by omega) (hb4.symm.trans hs4.symm) _ _ _ hP hD hS (lv_sub hl [2, 1, 0] rfl)
  exact lp4 24 0 0 (Nat.zero_add _) (lp_zero _ _).symm _ _ _ hP hD hS (lv_sub hl [2, 1, 0] rfl)
