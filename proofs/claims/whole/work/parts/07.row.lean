def v_X0_at_1_0 (n : Nat) (f : Nat → Int32) (place : Int32) : Int32 := if place < 0 then 0 else (if (nI n) ≤ place then 0 else (f place.toNatClampNeg))
def f_X0_at (n : Nat) (f : Nat → Int32) (place : Int32) : Int32 := (v_X0_at_1_0 n f place)
abbrev rm_X0_at : Room := { frames := 0, cells := 0, slots := 0, locals := 0 }
set_option maxRecDepth 100000 in
set_option maxHeartbeats 4000000 in
theorem k_X0_at (l : Launch) (D : va_G) (cI cZ : ClassId) (adK adV : Nat → Nat) (h : Nat) (a : Nat) (n : Nat) (f : Nat → Int32) (place : Int32) (hn : n < 2147483648) : CI l D (kTy cI cZ) (kG adK adV) yX0_at (.code yX0_at cX0_at 2 (some .int) :: wsL_law) rm_X0_at [.ref h, .int place] (wR cI h a n f) (wR cI h a n f) (f_X0_at n f place) := by
  refine CI.of (cc := cX0_at) (maxL := 2) (ty := .int) (by decide) rfl (Nat.le_of_ble_eq_true rfl) rfl ?_
  intro p e s m args below meth c A Q ls hx hb hml hts0 hown hA hP hK hD hE hl hret
  have hts : ∀ w ∈ wsL_law, w.before args s = true := fun w h => hts0 w (List.mem_cons_of_mem _ h)
  clear hts0
  have hown : s.vm.findClass RX0 = some m.cls := hown
  have hl : lv_has ls 2 [(0, .ref h), (1, .int place)] := hl
  have hS : va_S A s.heap s.heap [] := va_S.rf
  revert hP hS
  suffices hgo : ∀ (H : Heap) (locs : List Loc), va_P D vwCl (wR cI h a n f) H → va_S A s.heap H locs → W p l e rm_X0_at s m args below meth c H locs 0 0 Q (F0 m 0 ls []) from fun a b => hgo _ _ a b
  intro H locs hP hS
  refine lv_iload_n hx hb dX0_at_0 rfl (lv_at hl 1 rfl) ?_
  have J1 : ∀ (H : Heap) (locs : List Loc) (ls : Array Slot), va_P D vwCl (wR cI h a n f) H → va_D A (wR cI h a n f) → va_S A s.heap H locs → lv_has ls 2 [(0, .ref h), (1, .int place)] → W p l e rm_X0_at s m args below meth c H locs 0 0 Q (F0 m 23 ls [.int (v_X0_at_1_0 n f place)]) := by
    intro H locs ls hP hD hS hl
    have hf : (f_X0_at n f place) = (v_X0_at_1_0 n f place) := rfl
    rw [hf] at hret
    exact hret _ _ _ _ hP hS dX0_at_23
  refine lv_if_lt (tgt := 22) hx hb dX0_at_1 (by decide) (fun c_1 => ?_) (fun c_1 => ?_)
  · skip
    refine lv_iconst (v := 0) hx hb dX0_at_22 (by decide) ?_
    rw [show (v_X0_at_1_0 n f place) = 0 from (if_pos c_1)] at J1
    exact J1 _ _ _ hP hD hS (lv_sub hl [0, 1] rfl)
  · skip
    refine lv_iload_n hx hb dX0_at_4 rfl (lv_at hl 1 rfl) ?_
    refine lv_aload_n hx hb dX0_at_5 rfl (lv_at hl 0 rfl) ?_
    refine va_get (D := D) (ci := 0) (v := .ref a) (C := RX0) (T := TX0) (N := 1) hx hb hts inlX0 hown hK hP 0 rfl rfl 0 (by decide) (kw hts kin_3 7 rfl) (fun _ h9 => h9) rfl dX0_at_6 ?_
    refine va_alen (cA := cI) (v := (nI n)) (ty := .int) (x := (n, .inl f)) hx hb hK hP 1 0 rfl rfl rfl dX0_at_9 ?_
    refine lv_icmp_ge (tgt := 22) hx hb dX0_at_10 (by decide) (fun c_10 => ?_) (fun c_10 => ?_)
    · skip
      refine lv_iconst (v := 0) hx hb dX0_at_22 (by decide) ?_
      rw [show (v_X0_at_1_0 n f place) = 0 from ((if_neg c_1).trans (if_pos c_10))] at J1
      exact J1 _ _ _ hP hD hS (lv_sub hl [0, 1] rfl)
    · skip
      refine lv_aload_n hx hb dX0_at_13 rfl (lv_at hl 0 rfl) ?_
      refine va_get (D := D) (ci := 0) (v := .ref a) (C := RX0) (T := TX0) (N := 1) hx hb hts inlX0 hown hK hP 0 rfl rfl 0 (by decide) (kw hts kin_3 7 rfl) (fun _ h9 => h9) rfl dX0_at_14 ?_
      refine lv_iload_n hx hb dX0_at_17 rfl (lv_at hl 1 rfl) ?_
      refine va_iald (cA := cI) (n := n) (f := f) hx hb hK hP 1 0 rfl rfl (kin_of c_1 c_10 hn) dX0_at_18 ?_
      refine lv_goto (tgt := 23) hx hb dX0_at_19 (by decide) ?_
      rw [show (v_X0_at_1_0 n f place) = (f place.toNatClampNeg) from ((if_neg c_1).trans (if_neg c_10))] at J1
      exact J1 _ _ _ hP hD hS (lv_sub hl [0, 1] rfl)
def v_X0_put_1_0 (n : Nat) (f : Nat → Int32) (place : Int32) (number : Int32) : Nat → Int32 := if place < 0 then f else (if (nI n) ≤ place then f else (upd f place.toNatClampNeg number))
def f_X0_put (n : Nat) (f : Nat → Int32) (place : Int32) (number : Int32) : (Nat → Int32) := (v_X0_put_1_0 n f place number)
abbrev rm_X0_put : Room := { frames := 0, cells := 0, slots := 0, locals := 0 }
set_option maxRecDepth 100000 in
set_option maxHeartbeats 4000000 in
theorem k_X0_put (l : Launch) (D : va_G) (cI cZ : ClassId) (adK adV : Nat → Nat) (h : Nat) (a : Nat) (n : Nat) (f : Nat → Int32) (place : Int32) (number : Int32) (hn : n < 2147483648) : CV l D (kTy cI cZ) (kG adK adV) yX0_put (.code yX0_put cX0_put 3 none :: wsL_law) rm_X0_put [.ref h, .int place, .int number] (wR cI h a n f) (wR cI h a n (f_X0_put n f place number)) := by
  refine CV.of (cc := cX0_put) (maxL := 3) (by decide) rfl (Nat.le_of_ble_eq_true rfl) ?_
  intro p e s m args below meth c A Q ls hx hb hml hts0 hown hA hP hK hD hE hl hret
  have hts : ∀ w ∈ wsL_law, w.before args s = true := fun w h => hts0 w (List.mem_cons_of_mem _ h)
  clear hts0
  have hown : s.vm.findClass RX0 = some m.cls := hown
  have hl : lv_has ls 3 [(0, .ref h), (1, .int place), (2, .int number)] := hl
  have hS : va_S A s.heap s.heap [] := va_S.rf
  revert hP hS
  suffices hgo : ∀ (H : Heap) (locs : List Loc), va_P D vwCl (wR cI h a n f) H → va_S A s.heap H locs → W p l e rm_X0_put s m args below meth c H locs 0 0 Q (F0 m 0 ls []) from fun a b => hgo _ _ a b
  intro H locs hP hS
  refine lv_iload_n hx hb dX0_put_0 rfl (lv_at hl 1 rfl) ?_
  have J1 : ∀ (H : Heap) (locs : List Loc) (ls : Array Slot), va_P D vwCl (wR cI h a n (v_X0_put_1_0 n f place number)) H → va_D A (wR cI h a n (v_X0_put_1_0 n f place number)) → va_S A s.heap H locs → lv_has ls 3 [(0, .ref h), (1, .int place), (2, .int number)] → W p l e rm_X0_put s m args below meth c H locs 0 0 Q (F0 m 20 ls []) := by
    intro H locs ls hP hD hS hl
    have hf : (f_X0_put n f place number) = (v_X0_put_1_0 n f place number) := rfl
    rw [hf] at hret
    exact hret _ _ _ _ hP hS dX0_put_20
  refine lv_if_lt (tgt := 20) hx hb dX0_put_1 (by decide) (fun c_1 => ?_) (fun c_1 => ?_)
  · skip
    rw [show (v_X0_put_1_0 n f place number) = f from (if_pos c_1)] at J1
    exact J1 _ _ _ hP hD hS (lv_sub hl [0, 1, 2] rfl)
  · skip
    refine lv_iload_n hx hb dX0_put_4 rfl (lv_at hl 1 rfl) ?_
    refine lv_aload_n hx hb dX0_put_5 rfl (lv_at hl 0 rfl) ?_
    refine va_get (D := D) (ci := 0) (v := .ref a) (C := RX0) (T := TX0) (N := 1) hx hb hts inlX0 hown hK hP 0 rfl rfl 0 (by decide) (kw hts kin_3 7 rfl) (fun _ h9 => h9) rfl dX0_put_6 ?_
    refine va_alen (cA := cI) (v := (nI n)) (ty := .int) (x := (n, .inl f)) hx hb hK hP 1 0 rfl rfl rfl dX0_put_9 ?_
    refine lv_icmp_ge (tgt := 20) hx hb dX0_put_10 (by decide) (fun c_10 => ?_) (fun c_10 => ?_)
    · skip
      rw [show (v_X0_put_1_0 n f place number) = f from ((if_neg c_1).trans (if_pos c_10))] at J1
      exact J1 _ _ _ hP hD hS (lv_sub hl [0, 1, 2] rfl)
    · skip
      refine lv_aload_n hx hb dX0_put_13 rfl (lv_at hl 0 rfl) ?_
      refine va_get (D := D) (ci := 0) (v := .ref a) (C := RX0) (T := TX0) (N := 1) hx hb hts inlX0 hown hK hP 0 rfl rfl 0 (by decide) (kw hts kin_3 7 rfl) (fun _ h9 => h9) rfl dX0_put_14 ?_
      refine lv_iload_n hx hb dX0_put_17 rfl (lv_at hl 1 rfl) ?_
      refine lv_iload_n hx hb dX0_put_18 rfl (lv_at hl 2 rfl) ?_
      refine va_iast (cA := cI) (n := n) (f := f) hx hb hK hP hD hS 1 0 rfl rfl (kin_of c_1 c_10 hn) dX0_put_19 (fun H locs hP hD hS => ?_)
      have hP : va_P D vwCl (wR cI h a n (upd f place.toNatClampNeg number)) H := hP
      have hD : va_D A (wR cI h a n (upd f place.toNatClampNeg number)) := hD
      rw [show (v_X0_put_1_0 n f place number) = (upd f place.toNatClampNeg number) from ((if_neg c_1).trans (if_neg c_10))] at J1
      exact J1 _ _ _ hP hD hS (lv_sub hl [0, 1, 2] rfl)
def nx_X0_zero_2 (i : Nat) (y2_f : Nat → Int32) : (Nat → Int32) := (upd y2_f ((nI i).toNatClampNeg) 0)
def x_X0_zero_2 (n : Nat) (f : Nat → Int32) : (Nat → Int32) := lp (fun iz z => nx_X0_zero_2 iz z) f n
def f_X0_zero (n : Nat) (f : Nat → Int32) : (Nat → Int32) := (x_X0_zero_2 n f)
abbrev rm_X0_zero : Room := { frames := 0, cells := 0, slots := 0, locals := 0 }
set_option maxRecDepth 100000 in
set_option maxHeartbeats 4000000 in
theorem k_X0_zero (l : Launch) (D : va_G) (cI cZ : ClassId) (adK adV : Nat → Nat) (h : Nat) (a : Nat) (n : Nat) (f : Nat → Int32) (hn : n < 2147483648) : CV l D (kTy cI cZ) (kG adK adV) yX0_zero (.code yX0_zero cX0_zero 2 none :: wsL_law) rm_X0_zero [.ref h] (wR cI h a n f) (wR cI h a n (f_X0_zero n f)) := by
  refine CV.of (cc := cX0_zero) (maxL := 2) (by decide) rfl (Nat.le_of_ble_eq_true rfl) ?_
  intro p e s m args below meth c A Q ls hx hb hml hts0 hown hA hP hK hD hE hl hret
  have hts : ∀ w ∈ wsL_law, w.before args s = true := fun w h => hts0 w (List.mem_cons_of_mem _ h)
  clear hts0
  have hown : s.vm.findClass RX0 = some m.cls := hown
  have hl : lv_has ls 2 [(0, .ref h)] := hl
  have hS : va_S A s.heap s.heap [] := va_S.rf
  revert hP hS
  suffices hgo : ∀ (H : Heap) (locs : List Loc), va_P D vwCl (wR cI h a n f) H → va_S A s.heap H locs → W p l e rm_X0_zero s m args below meth c H locs 0 0 Q (F0 m 0 ls []) from fun a b => hgo _ _ a b
  intro H locs hP hS
  refine lv_iconst (v := 0) hx hb dX0_zero_0 (by decide) ?_
  refine lv_istore_n (lv' := [(1, .int 0), (0, .ref h)]) hx hb dX0_zero_1 rfl hl (by decide) rfl (fun ls hl => ?_)
  have lp2 : ∀ (k2 i : Nat) (y2_f : Nat → Int32), i + k2 = n → y2_f = lp (fun iz z => nx_X0_zero_2 iz z) f i → ∀ (H : Heap) (locs : List Loc) (ls : Array Slot), va_P D vwCl (wR cI h a n y2_f) H → va_D A (wR cI h a n y2_f) → va_S A s.heap H locs → lv_has ls 2 [(0, .ref h), (1, .int (nI i))] → W p l e rm_X0_zero s m args below meth c H locs 0 0 Q (F0 m 2 ls []) := by
    intro k2
    induction k2 with
    | zero =>
      intro i y2_f hi2 ea2 H locs ls hP hD hS hl
      have hi2 : n = i := by omega
      subst hi2
      have ea2 : y2_f = (x_X0_zero_2 n f) := ea2
      subst ea2
      refine lv_iload_n hx hb dX0_zero_2 rfl (lv_at hl 1 rfl) ?_
      refine lv_aload_n hx hb dX0_zero_3 rfl (lv_at hl 0 rfl) ?_
      refine va_get (D := D) (ci := 0) (v := .ref a) (C := RX0) (T := TX0) (N := 1) hx hb hts inlX0 hown hK hP 0 rfl rfl 0 (by decide) (kw hts kin_3 7 rfl) (fun _ h9 => h9) rfl dX0_zero_4 ?_
      refine va_alen (cA := cI) (v := (nI n)) (ty := .int) (x := (n, .inl (x_X0_zero_2 n f))) hx hb hK hP 1 0 rfl rfl rfl dX0_zero_7 ?_
      refine lv_icmp_ge (tgt := 24) hx hb dX0_zero_8 (by decide) (fun _ => ?_) (fun c_8 => absurd (nI_le (Nat.le_refl _) hn) c_8)
      have hf : (f_X0_zero n f) = (x_X0_zero_2 n f) := rfl
      rw [hf] at hret
      exact hret _ _ _ _ hP hS dX0_zero_24
    | succ k2 ih2 =>
      intro i y2_f hi2 ea2 H locs ls hP hD hS hl
      have hlt2 : i < n := by omega
      refine lv_iload_n hx hb dX0_zero_2 rfl (lv_at hl 1 rfl) ?_
      refine lv_aload_n hx hb dX0_zero_3 rfl (lv_at hl 0 rfl) ?_
      refine va_get (D := D) (ci := 0) (v := .ref a) (C := RX0) (T := TX0) (N := 1) hx hb hts inlX0 hown hK hP 0 rfl rfl 0 (by decide) (kw hts kin_3 7 rfl) (fun _ h9 => h9) rfl dX0_zero_4 ?_
      refine va_alen (cA := cI) (v := (nI n)) (ty := .int) (x := (n, .inl y2_f)) hx hb hK hP 1 0 rfl rfl rfl dX0_zero_7 ?_
      refine lv_icmp_ge (tgt := 24) hx hb dX0_zero_8 (by decide) (fun c_8 => absurd c_8 (nI_ge hlt2 hn)) (fun _ => ?_)
      refine lv_aload_n hx hb dX0_zero_11 rfl (lv_at hl 0 rfl) ?_
      refine va_get (D := D) (ci := 0) (v := .ref a) (C := RX0) (T := TX0) (N := 1) hx hb hts inlX0 hown hK hP 0 rfl rfl 0 (by decide) (kw hts kin_3 7 rfl) (fun _ h9 => h9) rfl dX0_zero_12 ?_
      refine lv_iload_n hx hb dX0_zero_15 rfl (lv_at hl 1 rfl) ?_
      refine lv_iconst (v := 0) hx hb dX0_zero_16 (by decide) ?_
      refine va_iast (cA := cI) (n := n) (f := y2_f) hx hb hK hP hD hS 1 0 rfl rfl (vp_in_nI hlt2 hn) dX0_zero_17 (fun H locs hP hD hS => ?_)
      have hP : va_P D vwCl (wR cI h a n (upd y2_f ((nI i).toNatClampNeg) 0)) H := hP
      have hD : va_D A (wR cI h a n (upd y2_f ((nI i).toNatClampNeg) 0)) := hD
      refine lv_iinc (v := (nI (i + 1))) (lv' := [(1, .int (nI (i + 1))), (0, .ref h)]) hx hb dX0_zero_18 hl (k := 1) rfl (nI_1 i) (by decide) rfl (fun ls hl => ?_)
      refine lv_goto (tgt := 2) hx hb dX0_zero_21 (by decide) ?_
      have hb2 : nx_X0_zero_2 i y2_f = (upd y2_f ((nI i).toNatClampNeg) 0) := rfl
      have hs2 : (lp (fun iz z => nx_X0_zero_2 iz z) f (i + 1) : (Nat → Int32)) = nx_X0_zero_2 i (lp (fun iz z => nx_X0_zero_2 iz z) f i : (Nat → Int32)) := lp_succ _ _ _
      rw [← ea2] at hs2
      exact ih2 (i + 1) (upd y2_f ((nI i).toNatClampNeg) 0) (by omega) (hb2.symm.trans hs2.symm) _ _ _ hP hD hS (lv_sub hl [1, 0] rfl)
  exact lp2 n 0 f (Nat.zero_add _) (lp_zero _ _).symm _ _ _ hP hD hS (lv_sub hl [1, 0] rfl)
def f_X0_take (n : Nat) (n1 : Nat) (f : Nat → Int32) (g : Nat → Int32) (begin_ : Int32) (place : Int32) (length : Int32) : (Nat → Int32) := if begin_ < 0 then f else (if place < 0 then f else (if 0 ≤ length then (if ((nI n1) - length) < begin_ then f else (if place ≤ ((nI n) - length) then (va_cpy g f begin_.toNatClampNeg place.toNatClampNeg length.toNatClampNeg) else f)) else f))
abbrev rm_X0_take : Room := { frames := 1, cells := 0, slots := 0, locals := 60 }
set_option maxRecDepth 100000 in
set_option maxHeartbeats 4000000 in
theorem k_X0_take (l : Launch) (D : va_G) (cI cZ : ClassId) (adK adV : Nat → Nat) (h : Nat) (a : Nat) (n : Nat) (h1 : Nat) (a1 : Nat) (n1 : Nat) (f : Nat → Int32) (g : Nat → Int32) (begin_ : Int32) (place : Int32) (length : Int32) (hn : n < 2147483648) (hn1 : n1 < 2147483648) : CV l D (kTy cI cZ) (kG adK adV) yX0_take (.code yX0_take cX0_take 5 none :: wsL_law) rm_X0_take [.ref h, .ref h1, .int begin_, .int place, .int length] (wR cI h a n f ++ wR cI h1 a1 n1 g) (wR cI h a n (f_X0_take n n1 f g begin_ place length) ++ wR cI h1 a1 n1 g) := by
  refine CV.of (cc := cX0_take) (maxL := 5) (by decide) rfl (Nat.le_of_ble_eq_true rfl) ?_
  intro p e s m args below meth c A Q ls hx hb hml hts0 hown hA hP hK hD hE hl hret
  have hts : ∀ w ∈ wsL_law, w.before args s = true := fun w h => hts0 w (List.mem_cons_of_mem _ h)
  clear hts0
  have hown : s.vm.findClass RX0 = some m.cls := hown
  have hl : lv_has ls 5 [(0, .ref h), (1, .ref h1), (2, .int begin_), (3, .int place), (4, .int length)] := hl
  have hS : va_S A s.heap s.heap [] := va_S.rf
  revert hP hS
  suffices hgo : ∀ (H : Heap) (locs : List Loc), va_P D vwCl (wR cI h a n f ++ wR cI h1 a1 n1 g) H → va_S A s.heap H locs → W p l e rm_X0_take s m args below meth c H locs 0 0 Q (F0 m 0 ls []) from fun a b => hgo _ _ a b
  intro H locs hP hS
  refine lv_iload_n hx hb dX0_take_0 rfl (lv_at hl 2 rfl) ?_
  refine lv_if_lt (tgt := 13) hx hb dX0_take_1 (by decide) (fun c_1 => ?_) (fun c_1 => ?_)
  · skip
    have hf : (f_X0_take n n1 f g begin_ place length) = f := (if_pos c_1)
    rw [hf] at hret
    exact hret _ _ _ _ hP hS dX0_take_13
  · skip
    refine lv_iload_n hx hb dX0_take_4 rfl (lv_at hl 3 rfl) ?_
    refine lv_if_lt (tgt := 13) hx hb dX0_take_5 (by decide) (fun c_5 => ?_) (fun c_5 => ?_)
    · skip
      have hf : (f_X0_take n n1 f g begin_ place length) = f := ((if_neg c_1).trans (if_pos c_5))
      rw [hf] at hret
      exact hret _ _ _ _ hP hS dX0_take_13
    · skip
      refine lv_iload hx hb dX0_take_8 (lv_at hl 4 rfl) ?_
      refine lv_if_ge (tgt := 14) hx hb dX0_take_10 (by decide) (fun c_10 => ?_) (fun c_10 => ?_)
      · skip
        refine lv_iload_n hx hb dX0_take_14 rfl (lv_at hl 2 rfl) ?_
        refine lv_aload_n hx hb dX0_take_15 rfl (lv_at hl 1 rfl) ?_
        refine va_get (D := D) (ci := 0) (v := .ref a1) (C := RX0) (T := TX0) (N := 1) hx hb hts inlX0 hown hK hP 2 rfl rfl 0 (by decide) (kw hts kin_3 7 rfl) (fun _ h9 => h9) rfl dX0_take_16 ?_
        refine va_alen (cA := cI) (v := (nI n1)) (ty := .int) (x := (n1, .inl g)) hx hb hK hP 3 0 rfl rfl rfl dX0_take_19 ?_
        refine lv_iload hx hb dX0_take_20 (lv_at hl 4 rfl) ?_
        refine lv_isub hx hb dX0_take_22 ?_
        refine lv_icmp_gt (tgt := 38) hx hb dX0_take_23 (by decide) (fun c_23 => ?_) (fun c_23 => ?_)
        · skip
          have hf : (f_X0_take n n1 f g begin_ place length) = f := ((if_neg c_1).trans ((if_neg c_5).trans ((if_pos c_10).trans (if_pos c_23))))
          rw [hf] at hret
          exact hret _ _ _ _ hP hS dX0_take_38
        · skip
          refine lv_iload_n hx hb dX0_take_26 rfl (lv_at hl 3 rfl) ?_
          refine lv_aload_n hx hb dX0_take_27 rfl (lv_at hl 0 rfl) ?_
          refine va_get (D := D) (ci := 0) (v := .ref a) (C := RX0) (T := TX0) (N := 1) hx hb hts inlX0 hown hK hP 0 rfl rfl 0 (by decide) (kw hts kin_3 7 rfl) (fun _ h9 => h9) rfl dX0_take_28 ?_
          refine va_alen (cA := cI) (v := (nI n)) (ty := .int) (x := (n, .inl f)) hx hb hK hP 1 0 rfl rfl rfl dX0_take_31 ?_
          refine lv_iload hx hb dX0_take_32 (lv_at hl 4 rfl) ?_
          refine lv_isub hx hb dX0_take_34 ?_
          refine lv_icmp_le (tgt := 39) hx hb dX0_take_35 (by decide) (fun c_35 => ?_) (fun c_35 => ?_)
          · skip
            refine lv_aload_n hx hb dX0_take_39 rfl (lv_at hl 1 rfl) ?_
            refine va_get (D := D) (ci := 0) (v := .ref a1) (C := RX0) (T := TX0) (N := 1) hx hb hts inlX0 hown hK hP 2 rfl rfl 0 (by decide) (kw hts kin_3 7 rfl) (fun _ h9 => h9) rfl dX0_take_40 ?_
            refine lv_iload_n hx hb dX0_take_43 rfl (lv_at hl 2 rfl) ?_
            refine lv_aload_n hx hb dX0_take_44 rfl (lv_at hl 0 rfl) ?_
            refine va_get (D := D) (ci := 0) (v := .ref a) (C := RX0) (T := TX0) (N := 1) hx hb hts inlX0 hown hK hP 0 rfl rfl 0 (by decide) (kw hts kin_3 7 rfl) (fun _ h9 => h9) rfl dX0_take_45 ?_
            refine lv_iload_n hx hb dX0_take_48 rfl (lv_at hl 3 rfl) ?_
            refine lv_iload hx hb dX0_take_49 (lv_at hl 4 rfl) ?_
            refine va_copyi (ty := .int) hx hb (hml.trans hl.1.symm) hown (kw hts kin_23 18 rfl) (kw hts kin_23 19 rfl) (kw hts kin_23 20 rfl) (kw hts kin_23 21 rfl) hK hP hD hS 3 1 0 0 rfl rfl rfl rfl rfl c_1 c_5 (knlt c_10) (ktake c_1 c_10 (kle_of c_23) hn1) (ktake c_5 c_10 c_35 hn) (fun _ _ => rfl) (Nat.le_of_ble_eq_true rfl) (Nat.le_of_ble_eq_true rfl) dX0_take_51 (fun H locs hP hD hS => ?_)
            have hP : va_P D vwCl (wR cI h a n (va_cpy g f begin_.toNatClampNeg place.toNatClampNeg length.toNatClampNeg) ++ wR cI h1 a1 n1 g) H := hP
            have hD : va_D A (wR cI h a n (va_cpy g f begin_.toNatClampNeg place.toNatClampNeg length.toNatClampNeg) ++ wR cI h1 a1 n1 g) := hD
            have hf : (f_X0_take n n1 f g begin_ place length) = (va_cpy g f begin_.toNatClampNeg place.toNatClampNeg length.toNatClampNeg) := ((if_neg c_1).trans ((if_neg c_5).trans ((if_pos c_10).trans ((if_neg c_23).trans (if_pos c_35)))))
            rw [hf] at hret
            exact hret _ _ _ _ hP hS dX0_take_54
          · skip
            have hf : (f_X0_take n n1 f g begin_ place length) = f := ((if_neg c_1).trans ((if_neg c_5).trans ((if_pos c_10).trans ((if_neg c_23).trans (if_neg c_35)))))
            rw [hf] at hret
            exact hret _ _ _ _ hP hS dX0_take_38
      · skip
        have hf : (f_X0_take n n1 f g begin_ place length) = f := ((if_neg c_1).trans ((if_neg c_5).trans (if_neg c_10)))
        rw [hf] at hret
        exact hret _ _ _ _ hP hS dX0_take_13
