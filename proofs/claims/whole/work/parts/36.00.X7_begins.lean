def lo_X7_begins_0 (text : Nat → Int32) (texted : Int32) : Nat → Int32 → Int32
  | 0, y0_at_ => y0_at_
  | k0 + 1, y0_at_ => if (f_X7_letterAt text texted y0_at_) = 32 then (lo_X7_begins_0 text texted k0 (y0_at_ + 1)) else y0_at_
def x_X7_begins_0 (text : Nat → Int32) (texted : Int32) (at_ : Int32) : Int32 := lo_X7_begins_0 text texted (((texted.toInt - at_.toInt).toNat) + 1) at_
def f_X7_begins (text : Nat → Int32) (texted : Int32) (at_ : Int32) : Int32 × Int32 := ((x_X7_begins_0 text texted at_), (x_X7_begins_0 text texted at_))
abbrev rm_X7_begins : Room := { frames := 1, cells := 0, slots := 0, locals := 21 }
theorem kletter {text : Nat → Int32} {texted k c : Int32} (h : f_X7_letterAt text texted k = c) (hc : ¬ c = -1) : ¬ texted ≤ k := by
  intro e
  unfold f_X7_letterAt v_X7_letterAt_5_0 at h
  rw [if_pos e] at h
  exact hc h.symm
theorem e_X7_begins_lo (text : Nat → Int32) {texted : Int32} : ∀ (k : Nat) (a : Int32), kat a texted → kat (lo_X7_begins_0 text texted k a) texted := by
  intro k
  induction k with
  | zero => intro a h; rw [lo_X7_begins_0]; exact h
  | succ k ih =>
    intro a h
    rw [lo_X7_begins_0]
    split
    · rename_i e
      exact ih _ (kat.succ h (kletter e (by decide)))
    · exact h
theorem e_X7_begins (text : Nat → Int32) {texted at_ : Int32} (hk : kat at_ texted) : kat (f_X7_begins text texted at_).1 texted := e_X7_begins_lo text _ _ hk
set_option maxRecDepth 100000 in
set_option maxHeartbeats 4000000 in
theorem k_X7_begins (l : Launch) (D : va_G) (cI cZ : ClassId) (u : Nat → Nat) (w : Nat → Int32) (told : Nat → Int32) (read : Nat → Int32) (isK : Nat → Int32) (undoes : Int32) (text : Nat → Int32) (texted : Int32) (seen : Int32) (seS : Nat → Int32) (seB : Nat → Int32) (seP : Nat → Int32) (at_ : Int32) (start : Int32) (clauses : Int32) (number : Int32) (word : Int64) (hk : kat at_ texted) : CV l D (kTy cI cZ) kT yX7_begins (.code yX7_begins cX7_begins 1 none :: wsL_law) rm_X7_begins [.ref (u 0)] (wM cI cZ u w told read isK undoes text texted seen seS seB seP at_ start clauses number word) (wM cI cZ u w told read isK undoes text texted seen seS seB seP ((f_X7_begins text texted at_).1) ((f_X7_begins text texted at_).2) clauses number word) := by
  refine CV.of (cc := cX7_begins) (maxL := 1) (by decide) rfl (Nat.le_of_ble_eq_true rfl) ?_
  intro p e s m args below meth c A Q ls hx hb hml hts0 hown hA hP hK hD hE hl hret
  have hts : ∀ w ∈ wsL_law, w.before args s = true := fun w h => hts0 w (List.mem_cons_of_mem _ h)
  clear hts0
  have hown : s.vm.findClass RX7 = some m.cls := hown
  have hl : lv_has ls 1 [(0, .ref (u 0))] := hl
  have hS : va_S A s.heap s.heap [] := va_S.rf
  revert hP hS
  suffices hgo : ∀ (H : Heap) (locs : List Loc), va_P D vwCl (wM cI cZ u w told read isK undoes text texted seen seS seB seP at_ start clauses number word) H → va_S A s.heap H locs → W p l e rm_X7_begins s m args below meth c H locs 0 0 Q (F0 m 0 ls []) from fun a b => hgo _ _ a b
  intro H locs hP hS
  have K0 : ∀ (H : Heap) (locs : List Loc) (ls : Array Slot), va_P D vwCl (wM cI cZ u w told read isK undoes text texted seen seS seB seP (x_X7_begins_0 text texted at_) start clauses number word) H → va_D A (wM cI cZ u w told read isK undoes text texted seen seS seB seP (x_X7_begins_0 text texted at_) start clauses number word) → va_S A s.heap H locs → lv_has ls 1 [(0, .ref (u 0))] → W p l e rm_X7_begins s m args below meth c H locs 0 0 Q (F0 m 26 ls []) := by
    intro H locs ls hP hD hS hl
    refine lv_aload_n hx hb dX7_begins_26 rfl (lv_at hl 0 rfl) ?_
    refine lv_aload_n hx hb dX7_begins_27 rfl (lv_at hl 0 rfl) ?_
    refine va_get (D := D) (ci := 7) (v := .int (x_X7_begins_0 text texted at_)) (C := RX7) (T := TX7) (N := 16) hx hb hts inlX7 hown hK hP 0 rfl rfl 11 (by decide) (kw hts kin_11 16 rfl) (fun _ h9 => h9) rfl dX7_begins_28 ?_
    refine va_put (D := D) (ci := 7) (v := .int (x_X7_begins_0 text texted at_)) (ty := .int) (C := RX7) (T := TX7) (N := 16) hx hb hts inlX7 tyX7 tyX7_ok nmX7 hown hK hP hD hS 0 rfl rfl 12 (by decide) (kw hts kin_11 18 rfl) (fun _ h9 => h9) rfl (by decide +kernel) rfl rfl (Nat.le_of_ble_eq_true rfl) dX7_begins_31 (fun H locs hP hD hS => ?_)
    have hP : va_P D vwCl (wM cI cZ u w told read isK undoes text texted seen seS seB seP (x_X7_begins_0 text texted at_) (x_X7_begins_0 text texted at_) clauses number word) H := hP
    have hD : va_D A (wM cI cZ u w told read isK undoes text texted seen seS seB seP (x_X7_begins_0 text texted at_) (x_X7_begins_0 text texted at_) clauses number word) := hD
    have hf : (f_X7_begins text texted at_) = ((x_X7_begins_0 text texted at_), (x_X7_begins_0 text texted at_)) := rfl
    rw [hf] at hret
    dsimp only at hret
    exact hret _ _ _ _ hP hS dX7_begins_34
  have lp0 : ∀ (k0 : Nat) (y0_at_ : Int32), (texted.toInt - y0_at_.toInt).toNat < k0 → kat y0_at_ texted → lo_X7_begins_0 text texted k0 y0_at_ = (x_X7_begins_0 text texted at_) → ∀ (H : Heap) (locs : List Loc) (ls : Array Slot), va_P D vwCl (wM cI cZ u w told read isK undoes text texted seen seS seB seP y0_at_ start clauses number word) H → va_D A (wM cI cZ u w told read isK undoes text texted seen seS seB seP y0_at_ start clauses number word) → va_S A s.heap H locs → lv_has ls 1 [(0, .ref (u 0))] → W p l e rm_X7_begins s m args below meth c H locs 0 0 Q (F0 m 0 ls []) := by
    intro k0
    induction k0 with
    | zero =>
      intro y0_at_ hm0 hv0 ea0 H locs ls hP hD hS hl
      exact absurd hm0 (Nat.not_lt_zero _)
    | succ k0 ih0 =>
      intro y0_at_ hm0 hv0 ea0 H locs ls hP hD hS hl
      refine lv_aload_n hx hb dX7_begins_0 rfl (lv_at hl 0 rfl) ?_
      refine lv_aload_n hx hb dX7_begins_1 rfl (lv_at hl 0 rfl) ?_
      refine va_get (D := D) (ci := 7) (v := .int y0_at_) (C := RX7) (T := TX7) (N := 16) hx hb hts inlX7 hown hK hP 0 rfl rfl 11 (by decide) (kw hts kin_11 16 rfl) (fun _ h9 => h9) rfl dX7_begins_2 ?_
      refine kvi (As := [.int y0_at_]) (rest := []) (q0 := 0) (ci := 7) ⟨hx, hb, hml, hown, hts⟩ hP hK hD hS hA hE (k_X7_letterAt l D cI cZ  u w told read isK undoes text texted seen seS seB seP y0_at_ start clauses number word y0_at_ ((hv0).b.wide (by decide) (by decide)) ((hv0).t.wide (by decide) (by decide))) (kcv hts kM_X7_letterAt (kin_12 _ (List.mem_of_getElem? (i := 15) rfl)) ⟨rfl, rfl⟩ ⟨Nat.le_of_ble_eq_true rfl, Nat.le_of_ble_eq_true rfl⟩) kBl_T kOk_T (wM cI cZ u w told read isK undoes text texted seen seS seB seP y0_at_ start clauses number word) (cut_m_m cI cZ u w told read isK undoes text texted seen seS seB seP y0_at_ start clauses number word w told read isK undoes text texted seen seS seB seP y0_at_ start clauses number word).1 (cut_m_m cI cZ u w told read isK undoes text texted seen seS seB seP y0_at_ start clauses number word w told read isK undoes text texted seen seS seB seP y0_at_ start clauses number word).2 rfl rfl rfl rfl hl.1 rfl (Nat.le_of_ble_eq_true rfl) dX7_begins_5 (fun H locs hP hD hS => ?_)
      refine lv_bipush (v := 32) hx hb dX7_begins_8 (by decide) ?_
      refine lv_icmp_ne (tgt := 26) hx hb dX7_begins_10 (by decide) (fun c_10 => ?_) (fun c_10 => ?_)
      · skip
        have hx0 : (x_X7_begins_0 text texted at_) = y0_at_ := (ea0).symm.trans (if_neg c_10)
        rw [hx0] at K0
        exact K0 _ _ _ hP hD hS (lv_sub hl [0] rfl)
      · skip
        refine lv_aload_n hx hb dX7_begins_13 rfl (lv_at hl 0 rfl) ?_
        refine lv_dup hx hb dX7_begins_14 rfl ?_
        refine va_get (D := D) (ci := 7) (v := .int y0_at_) (C := RX7) (T := TX7) (N := 16) hx hb hts inlX7 hown hK hP 0 rfl rfl 11 (by decide) (kw hts kin_11 16 rfl) (fun _ h9 => h9) rfl dX7_begins_15 ?_
        refine lv_iconst (v := 1) hx hb dX7_begins_18 (by decide) ?_
        refine lv_iadd hx hb dX7_begins_19 ?_
        refine va_put (D := D) (ci := 7) (v := .int (y0_at_ + 1)) (ty := .int) (C := RX7) (T := TX7) (N := 16) hx hb hts inlX7 tyX7 tyX7_ok nmX7 hown hK hP hD hS 0 rfl rfl 11 (by decide) (kw hts kin_11 16 rfl) (fun _ h9 => h9) rfl (by decide +kernel) rfl rfl (Nat.le_of_ble_eq_true rfl) dX7_begins_20 (fun H locs hP hD hS => ?_)
        have hP : va_P D vwCl (wM cI cZ u w told read isK undoes text texted seen seS seB seP (y0_at_ + 1) start clauses number word) H := hP
        have hD : va_D A (wM cI cZ u w told read isK undoes text texted seen seS seB seP (y0_at_ + 1) start clauses number word) := hD
        refine lv_goto (tgt := 0) hx hb dX7_begins_23 (by decide) ?_
        have hb0 : lo_X7_begins_0 text texted (k0 + 1) y0_at_ = lo_X7_begins_0 text texted k0 (y0_at_ + 1) := (if_pos c_10)
        exact ih0 (y0_at_ + 1) (kmu hm0 (kletter c_10 (by decide))) (kat.succ hv0 (kletter c_10 (by decide))) (hb0.symm.trans ea0) _ _ _ hP hD hS (lv_sub hl [0] rfl)
  exact lp0 (((texted.toInt - at_.toInt).toNat) + 1) at_ (Nat.lt_succ_self _) hk rfl _ _ _ hP hD hS (lv_sub hl [0] rfl)
