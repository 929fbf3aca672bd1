def v_X7_takesNumber_28_0 (text : Nat → Int32) (texted : Int32) (y9_at_ : Int32) (y9_number : Int32) : Int32 := if 1000 ≤ y9_number then 1000 else (((10 * y9_number) + (f_X7_letterAt text texted y9_at_)) - 48)
def lo_X7_takesNumber_9 (text : Nat → Int32) (texted : Int32) : Nat → Int32 → Int32 → (Int32 × Int32)
  | 0, y9_at_, y9_number => (y9_at_, y9_number)
  | k9 + 1, y9_at_, y9_number => if (f_X7_isDigit text texted y9_at_) = 0 then (y9_at_, y9_number) else (lo_X7_takesNumber_9 text texted k9 (y9_at_ + 1) (v_X7_takesNumber_28_0 text texted y9_at_ y9_number))
def x_X7_takesNumber_9 (text : Nat → Int32) (texted : Int32) (at_ : Int32) : Int32 × Int32 := lo_X7_takesNumber_9 text texted (((texted.toInt - ((f_X7_begins text texted at_).1).toInt).toNat) + 1) ((f_X7_begins text texted at_).1) 0
def v_X7_takesNumber_80_0 (text : Nat → Int32) (texted : Int32) (at_ : Int32) (low : Int32) (high : Int32) : Int32 := if ((x_X7_takesNumber_9 text texted at_).1) ≤ ((f_X7_begins text texted at_).2) then 0 else (if 3 ≤ (((x_X7_takesNumber_9 text texted at_).1) - ((f_X7_begins text texted at_).2)) then 0 else (if (f_X7_in (((x_X7_takesNumber_9 text texted at_).2).toInt64) low.toInt64 high.toInt64) = 0 then 0 else 1))
def f_X7_takesNumber (text : Nat → Int32) (texted : Int32) (at_ : Int32) (low : Int32) (high : Int32) : Int32 × Int32 × Int32 × Int32 := ((v_X7_takesNumber_80_0 text texted at_ low high), ((x_X7_takesNumber_9 text texted at_).1), (f_X7_begins text texted at_).2, ((x_X7_takesNumber_9 text texted at_).2))
abbrev rm_X7_takesNumber : Room := { frames := 2, cells := 0, slots := 0, locals := 46 }
theorem kin7_eq (v l h : Int64) : f_X7_in v l h = kin7 v l h := rfl
theorem kdigit {text : Nat → Int32} {texted k : Int32} (h : ¬ f_X7_isDigit text texted k = 0) : ¬ texted ≤ k := by
  intro e
  have h1 := kin7_iff (v := (f_X7_letterAt text texted k).toInt64) (low := 48) (high := 57) h
  have h2 : f_X7_letterAt text texted k = -1 := by
    unfold f_X7_letterAt v_X7_letterAt_5_0
    rw [if_pos e]
  rw [h2] at h1
  exact absurd h1.1 (by decide)
theorem e_X7_takesNumber_lo (text : Nat → Int32) {texted : Int32} : ∀ (k : Nat) (a z : Int32), kat a texted → kat (lo_X7_takesNumber_9 text texted k a z).1 texted := by
  intro k
  induction k with
  | zero => intro a z h; rw [lo_X7_takesNumber_9]; exact h
  | succ k ih =>
    intro a z h
    rw [lo_X7_takesNumber_9]
    split
    · exact h
    · rename_i e
      exact ih _ _ (kat.succ h (kdigit e))
theorem e_X7_takesNumber (text : Nat → Int32) {texted at_ low high : Int32} (hk : kat at_ texted) : kat (f_X7_takesNumber text texted at_ low high).2.1 texted := by
  simp only [f_X7_takesNumber, x_X7_takesNumber_9]
  exact e_X7_takesNumber_lo text _ _ _ (e_X7_begins text hk)
theorem b01_X7_takesNumber (text : Nat → Int32) (texted at_ low high : Int32) : (f_X7_takesNumber text texted at_ low high).1 = 0 ∨ (f_X7_takesNumber text texted at_ low high).1 = 1 := by
  have hv : (f_X7_takesNumber text texted at_ low high).1 = v_X7_takesNumber_80_0 text texted at_ low high := by simp only [f_X7_takesNumber]
  rw [hv]
  unfold v_X7_takesNumber_80_0
  split
  · exact Or.inl rfl
  · split
    · exact Or.inl rfl
    · split
      · exact Or.inl rfl
      · exact Or.inr rfl
theorem e2_X7_takesNumber {text : Nat → Int32} {texted at_ low high : Int32} (c : ¬ (f_X7_takesNumber text texted at_ low high).1 = 0) : ¬ kin7 ((f_X7_takesNumber text texted at_ low high).2.2.2).toInt64 low.toInt64 high.toInt64 = 0 := by
  have hv : (f_X7_takesNumber text texted at_ low high).1 = v_X7_takesNumber_80_0 text texted at_ low high := by simp only [f_X7_takesNumber]
  rw [hv] at c
  unfold v_X7_takesNumber_80_0 at c
  split at c
  · exact absurd rfl c
  · split at c
    · exact absurd rfl c
    · split at c
      · exact absurd rfl c
      · rename_i h
        have hn : (f_X7_takesNumber text texted at_ low high).2.2.2 = (x_X7_takesNumber_9 text texted at_).2 := by simp only [f_X7_takesNumber]
        rw [hn, ← kin7_eq]
        exact h
theorem k64_0 : (0 : Int32).toInt64 = 0 := by decide
theorem e3_X7_takesNumber {text : Nat → Int32} {texted at_ high : Int32} (c : ¬ (f_X7_takesNumber text texted at_ 0 high).1 = 0) : ¬ kin7 ((f_X7_takesNumber text texted at_ 0 high).2.2.2).toInt64 0 high.toInt64 = 0 := by
  have h := e2_X7_takesNumber c
  rw [k64_0] at h
  exact h
set_option maxRecDepth 100000 in
set_option maxHeartbeats 4000000 in
theorem k_X7_takesNumber (l : Launch) (D : va_G) (cI cZ : ClassId) (u : Nat → Nat) (w : Nat → Int32) (told : Nat → Int32) (read : Nat → Int32) (isK : Nat → Int32) (undoes : Int32) (text : Nat → Int32) (texted : Int32) (seen : Int32) (seS : Nat → Int32) (seB : Nat → Int32) (seP : Nat → Int32) (at_ : Int32) (start : Int32) (clauses : Int32) (number : Int32) (word : Int64) (low : Int32) (high : Int32) (hk : kat at_ texted) : CI l D (kTy cI cZ) kT yX7_takesNumber (.code yX7_takesNumber cX7_takesNumber 3 (some .boolean) :: wsL_law) rm_X7_takesNumber [.ref (u 0), .int low, .int high] (wM cI cZ u w told read isK undoes text texted seen seS seB seP at_ start clauses number word) (wM cI cZ u w told read isK undoes text texted seen seS seB seP ((f_X7_takesNumber text texted at_ low high).2.1) ((f_X7_takesNumber text texted at_ low high).2.2.1) clauses ((f_X7_takesNumber text texted at_ low high).2.2.2) word) ((f_X7_takesNumber text texted at_ low high).1) := by
  refine CI.of (cc := cX7_takesNumber) (maxL := 3) (ty := .boolean) (by decide) rfl (Nat.le_of_ble_eq_true rfl) (knb (b01_X7_takesNumber text texted at_ low high)) ?_
  intro p e s m args below meth c A Q ls hx hb hml hts0 hown hA hP hK hD hE hl hret
  have hts : ∀ w ∈ wsL_law, w.before args s = true := fun w h => hts0 w (List.mem_cons_of_mem _ h)
  clear hts0
  have hown : s.vm.findClass RX7 = some m.cls := hown
  have hl : lv_has ls 3 [(0, .ref (u 0)), (1, .int low), (2, .int high)] := hl
  have hS : va_S A s.heap s.heap [] := va_S.rf
  revert hP hS
  suffices hgo : ∀ (H : Heap) (locs : List Loc), va_P D vwCl (wM cI cZ u w told read isK undoes text texted seen seS seB seP at_ start clauses number word) H → va_S A s.heap H locs → W p l e rm_X7_takesNumber s m args below meth c H locs 0 0 Q (F0 m 0 ls []) from fun a b => hgo _ _ a b
  intro H locs hP hS
  refine lv_aload_n hx hb dX7_takesNumber_0 rfl (lv_at hl 0 rfl) ?_
  refine kvv (As := []) (rest := []) (q0 := 0) (ci := 7) ⟨hx, hb, hml, hown, hts⟩ hP hK hD hS hA hE (k_X7_begins l D cI cZ  u w told read isK undoes text texted seen seS seB seP at_ start clauses number word (hk)) (kcv hts kM_X7_begins (kin_12 _ (List.mem_of_getElem? (i := 11) rfl)) ⟨rfl, rfl⟩ ⟨Nat.le_of_ble_eq_true rfl, Nat.le_of_ble_eq_true rfl⟩) kBl_T kOk_T (wM cI cZ u w told read isK undoes text texted seen seS seB seP ((f_X7_begins text texted at_).1) ((f_X7_begins text texted at_).2) clauses number word) (cut_m_m cI cZ u w told read isK undoes text texted seen seS seB seP at_ start clauses number word w told read isK undoes text texted seen seS seB seP ((f_X7_begins text texted at_).1) ((f_X7_begins text texted at_).2) clauses number word).1 (cut_m_m cI cZ u w told read isK undoes text texted seen seS seB seP at_ start clauses number word w told read isK undoes text texted seen seS seB seP ((f_X7_begins text texted at_).1) ((f_X7_begins text texted at_).2) clauses number word).2 rfl rfl rfl rfl hl.1 rfl (Nat.le_of_ble_eq_true rfl) dX7_takesNumber_1 (fun H locs hP hD hS => ?_)
  refine lv_aload_n hx hb dX7_takesNumber_4 rfl (lv_at hl 0 rfl) ?_
  refine lv_iconst (v := 0) hx hb dX7_takesNumber_5 (by decide) ?_
  refine va_put (D := D) (ci := 7) (v := .int 0) (ty := .int) (C := RX7) (T := TX7) (N := 16) hx hb hts inlX7 tyX7 tyX7_ok nmX7 hown hK hP hD hS 0 rfl rfl 14 (by decide) (kw hts kin_13 5 rfl) (fun _ h9 => h9) rfl (by decide +kernel) rfl rfl (Nat.le_of_ble_eq_true rfl) dX7_takesNumber_6 (fun H locs hP hD hS => ?_)
  have hP : va_P D vwCl (wM cI cZ u w told read isK undoes text texted seen seS seB seP ((f_X7_begins text texted at_).1) ((f_X7_begins text texted at_).2) clauses 0 word) H := hP
  have hD : va_D A (wM cI cZ u w told read isK undoes text texted seen seS seB seP ((f_X7_begins text texted at_).1) ((f_X7_begins text texted at_).2) clauses 0 word) := hD
  have K9 : ∀ (H : Heap) (locs : List Loc) (ls : Array Slot), va_P D vwCl (wM cI cZ u w told read isK undoes text texted seen seS seB seP ((x_X7_takesNumber_9 text texted at_).1) ((f_X7_begins text texted at_).2) clauses ((x_X7_takesNumber_9 text texted at_).2) word) H → va_D A (wM cI cZ u w told read isK undoes text texted seen seS seB seP ((x_X7_takesNumber_9 text texted at_).1) ((f_X7_begins text texted at_).2) clauses ((x_X7_takesNumber_9 text texted at_).2) word) → va_S A s.heap H locs → lv_has ls 3 [(0, .ref (u 0)), (1, .int low), (2, .int high)] → W p l e rm_X7_takesNumber s m args below meth c H locs 0 0 Q (F0 m 72 ls []) := by
    intro H locs ls hP hD hS hl
    refine lv_aload_n hx hb dX7_takesNumber_72 rfl (lv_at hl 0 rfl) ?_
    refine va_get (D := D) (ci := 7) (v := .int ((x_X7_takesNumber_9 text texted at_).1)) (C := RX7) (T := TX7) (N := 16) hx hb hts inlX7 hown hK hP 0 rfl rfl 11 (by decide) (kw hts kin_11 16 rfl) (fun _ h9 => h9) rfl dX7_takesNumber_73 ?_
    refine lv_aload_n hx hb dX7_takesNumber_76 rfl (lv_at hl 0 rfl) ?_
    refine va_get (D := D) (ci := 7) (v := .int ((f_X7_begins text texted at_).2)) (C := RX7) (T := TX7) (N := 16) hx hb hts inlX7 hown hK hP 0 rfl rfl 12 (by decide) (kw hts kin_11 18 rfl) (fun _ h9 => h9) rfl dX7_takesNumber_77 ?_
    have J80 : ∀ (H : Heap) (locs : List Loc) (ls : Array Slot), va_P D vwCl (wM cI cZ u w told read isK undoes text texted seen seS seB seP ((x_X7_takesNumber_9 text texted at_).1) ((f_X7_begins text texted at_).2) clauses ((x_X7_takesNumber_9 text texted at_).2) word) H → va_D A (wM cI cZ u w told read isK undoes text texted seen seS seB seP ((x_X7_takesNumber_9 text texted at_).1) ((f_X7_begins text texted at_).2) clauses ((x_X7_takesNumber_9 text texted at_).2) word) → va_S A s.heap H locs → lv_has ls 3 [(0, .ref (u 0)), (1, .int low), (2, .int high)] → W p l e rm_X7_takesNumber s m args below meth c H locs 0 0 Q (F0 m 116 ls [.int (v_X7_takesNumber_80_0 text texted at_ low high)]) := by
      intro H locs ls hP hD hS hl
      have hf : (f_X7_takesNumber text texted at_ low high) = ((v_X7_takesNumber_80_0 text texted at_ low high), ((x_X7_takesNumber_9 text texted at_).1), (f_X7_begins text texted at_).2, ((x_X7_takesNumber_9 text texted at_).2)) := rfl
      rw [hf] at hret
      dsimp only at hret
      exact hret _ _ _ _ hP hS dX7_takesNumber_116
    refine lv_icmp_le (tgt := 115) hx hb dX7_takesNumber_80 (by decide) (fun c_80 => ?_) (fun c_80 => ?_)
    · skip
      refine lv_iconst (v := 0) hx hb dX7_takesNumber_115 (by decide) ?_
      rw [show (v_X7_takesNumber_80_0 text texted at_ low high) = 0 from (if_pos c_80)] at J80
      exact J80 _ _ _ hP hD hS (lv_sub hl [0, 1, 2] rfl)
    · skip
      refine lv_aload_n hx hb dX7_takesNumber_83 rfl (lv_at hl 0 rfl) ?_
      refine va_get (D := D) (ci := 7) (v := .int ((x_X7_takesNumber_9 text texted at_).1)) (C := RX7) (T := TX7) (N := 16) hx hb hts inlX7 hown hK hP 0 rfl rfl 11 (by decide) (kw hts kin_11 16 rfl) (fun _ h9 => h9) rfl dX7_takesNumber_84 ?_
      refine lv_aload_n hx hb dX7_takesNumber_87 rfl (lv_at hl 0 rfl) ?_
      refine va_get (D := D) (ci := 7) (v := .int ((f_X7_begins text texted at_).2)) (C := RX7) (T := TX7) (N := 16) hx hb hts inlX7 hown hK hP 0 rfl rfl 12 (by decide) (kw hts kin_11 18 rfl) (fun _ h9 => h9) rfl dX7_takesNumber_88 ?_
      refine lv_isub hx hb dX7_takesNumber_91 ?_
      refine lv_iconst (v := 3) hx hb dX7_takesNumber_92 (by decide) ?_
      refine lv_icmp_ge (tgt := 115) hx hb dX7_takesNumber_93 (by decide) (fun c_93 => ?_) (fun c_93 => ?_)
      · skip
        refine lv_iconst (v := 0) hx hb dX7_takesNumber_115 (by decide) ?_
        rw [show (v_X7_takesNumber_80_0 text texted at_ low high) = 0 from ((if_neg c_80).trans (if_pos c_93))] at J80
        exact J80 _ _ _ hP hD hS (lv_sub hl [0, 1, 2] rfl)
      · skip
        refine lv_aload_n hx hb dX7_takesNumber_96 rfl (lv_at hl 0 rfl) ?_
        refine va_get (D := D) (ci := 7) (v := .int ((x_X7_takesNumber_9 text texted at_).2)) (C := RX7) (T := TX7) (N := 16) hx hb hts inlX7 hown hK hP 0 rfl rfl 14 (by decide) (kw hts kin_13 5 rfl) (fun _ h9 => h9) rfl dX7_takesNumber_97 ?_
        refine lv_i2l (v := ((x_X7_takesNumber_9 text texted at_).2).toInt64) hx hb dX7_takesNumber_100 rfl ?_
        refine lv_iload_n hx hb dX7_takesNumber_101 rfl (lv_at hl 1 rfl) ?_
        refine lv_i2l (v := low.toInt64) hx hb dX7_takesNumber_102 rfl ?_
        refine lv_iload_n hx hb dX7_takesNumber_103 rfl (lv_at hl 2 rfl) ?_
        refine lv_i2l (v := high.toInt64) hx hb dX7_takesNumber_104 rfl ?_
        refine ksi (As := [.long (((x_X7_takesNumber_9 text texted at_).2).toInt64), .long low.toInt64, .long high.toInt64]) (rest := []) ⟨hx, hb, hml, hown, hts⟩ hP hK hD hS hA hE (k_X7_in l D cI cZ  (((x_X7_takesNumber_9 text texted at_).2).toInt64) low.toInt64 high.toInt64) (kcs hts kM_X7_in (kin_6 _ (List.mem_of_getElem? (i := 6) rfl)) ⟨rfl, rfl⟩ ⟨Nat.le_of_ble_eq_true rfl, Nat.le_of_ble_eq_true rfl⟩) kBl_T kOk_T rfl hl.1 rfl (Nat.le_of_ble_eq_true rfl) dX7_takesNumber_105 (fun H locs hP hD hS => ?_)
        refine lv_if_eq (tgt := 115) hx hb dX7_takesNumber_108 (by decide) (fun c_108 => ?_) (fun c_108 => ?_)
        · skip
          refine lv_iconst (v := 0) hx hb dX7_takesNumber_115 (by decide) ?_
          rw [show (v_X7_takesNumber_80_0 text texted at_ low high) = 0 from ((if_neg c_80).trans ((if_neg c_93).trans (if_pos c_108)))] at J80
          exact J80 _ _ _ hP hD hS (lv_sub hl [0, 1, 2] rfl)
        · skip
          refine lv_iconst (v := 1) hx hb dX7_takesNumber_111 (by decide) ?_
          refine lv_goto (tgt := 116) hx hb dX7_takesNumber_112 (by decide) ?_
          rw [show (v_X7_takesNumber_80_0 text texted at_ low high) = 1 from ((if_neg c_80).trans ((if_neg c_93).trans (if_neg c_108)))] at J80
          exact J80 _ _ _ hP hD hS (lv_sub hl [0, 1, 2] rfl)
  have lp9 : ∀ (k9 : Nat) (y9_at_ : Int32) (y9_number : Int32), (texted.toInt - y9_at_.toInt).toNat < k9 → kat y9_at_ texted → lo_X7_takesNumber_9 text texted k9 y9_at_ y9_number = (x_X7_takesNumber_9 text texted at_) → ∀ (H : Heap) (locs : List Loc) (ls : Array Slot), va_P D vwCl (wM cI cZ u w told read isK undoes text texted seen seS seB seP y9_at_ ((f_X7_begins text texted at_).2) clauses y9_number word) H → va_D A (wM cI cZ u w told read isK undoes text texted seen seS seB seP y9_at_ ((f_X7_begins text texted at_).2) clauses y9_number word) → va_S A s.heap H locs → lv_has ls 3 [(0, .ref (u 0)), (1, .int low), (2, .int high)] → W p l e rm_X7_takesNumber s m args below meth c H locs 0 0 Q (F0 m 9 ls []) := by
    intro k9
    induction k9 with
    | zero =>
      intro y9_at_ y9_number hm9 hv9 ea9 H locs ls hP hD hS hl
      exact absurd hm9 (Nat.not_lt_zero _)
    | succ k9 ih9 =>
      intro y9_at_ y9_number hm9 hv9 ea9 H locs ls hP hD hS hl
      refine lv_aload_n hx hb dX7_takesNumber_9 rfl (lv_at hl 0 rfl) ?_
      refine lv_aload_n hx hb dX7_takesNumber_10 rfl (lv_at hl 0 rfl) ?_
      refine va_get (D := D) (ci := 7) (v := .int y9_at_) (C := RX7) (T := TX7) (N := 16) hx hb hts inlX7 hown hK hP 0 rfl rfl 11 (by decide) (kw hts kin_11 16 rfl) (fun _ h9 => h9) rfl dX7_takesNumber_11 ?_
      refine kvi (As := [.int y9_at_]) (rest := []) (q0 := 0) (ci := 7) ⟨hx, hb, hml, hown, hts⟩ hP hK hD hS hA hE (k_X7_isDigit l D cI cZ  u w told read isK undoes text texted seen seS seB seP y9_at_ ((f_X7_begins text texted at_).2) clauses y9_number word y9_at_ ((hv9).b.wide (by decide) (by decide)) ((hv9).t.wide (by decide) (by decide))) (kcv hts kM_X7_isDigit (kin_13 _ (List.mem_of_getElem? (i := 10) rfl)) ⟨rfl, rfl⟩ ⟨Nat.le_of_ble_eq_true rfl, Nat.le_of_ble_eq_true rfl⟩) kBl_T kOk_T (wM cI cZ u w told read isK undoes text texted seen seS seB seP y9_at_ ((f_X7_begins text texted at_).2) clauses y9_number word) (cut_m_m cI cZ u w told read isK undoes text texted seen seS seB seP y9_at_ ((f_X7_begins text texted at_).2) clauses y9_number word w told read isK undoes text texted seen seS seB seP y9_at_ ((f_X7_begins text texted at_).2) clauses y9_number word).1 (cut_m_m cI cZ u w told read isK undoes text texted seen seS seB seP y9_at_ ((f_X7_begins text texted at_).2) clauses y9_number word w told read isK undoes text texted seen seS seB seP y9_at_ ((f_X7_begins text texted at_).2) clauses y9_number word).2 rfl rfl rfl rfl hl.1 rfl (Nat.le_of_ble_eq_true rfl) dX7_takesNumber_14 (fun H locs hP hD hS => ?_)
      refine lv_if_eq (tgt := 72) hx hb dX7_takesNumber_17 (by decide) (fun c_17 => ?_) (fun c_17 => ?_)
      · skip
        have hx9 : (x_X7_takesNumber_9 text texted at_) = (y9_at_, y9_number) := (ea9).symm.trans (if_pos c_17)
        rw [show ((x_X7_takesNumber_9 text texted at_).1) = y9_at_ from (kpf hx9)] at K9
        rw [show ((x_X7_takesNumber_9 text texted at_).2) = y9_number from (id (kps hx9))] at K9
        exact K9 _ _ _ hP hD hS (lv_sub hl [0, 1, 2] rfl)
      · skip
        refine lv_aload_n hx hb dX7_takesNumber_20 rfl (lv_at hl 0 rfl) ?_
        refine lv_aload_n hx hb dX7_takesNumber_21 rfl (lv_at hl 0 rfl) ?_
        refine va_get (D := D) (ci := 7) (v := .int y9_number) (C := RX7) (T := TX7) (N := 16) hx hb hts inlX7 hown hK hP 0 rfl rfl 14 (by decide) (kw hts kin_13 5 rfl) (fun _ h9 => h9) rfl dX7_takesNumber_22 ?_
        refine lv_sipush (v := 1000) hx hb dX7_takesNumber_25 (by decide) ?_
        have J28 : ∀ (H : Heap) (locs : List Loc) (ls : Array Slot), va_P D vwCl (wM cI cZ u w told read isK undoes text texted seen seS seB seP y9_at_ ((f_X7_begins text texted at_).2) clauses y9_number word) H → va_D A (wM cI cZ u w told read isK undoes text texted seen seS seB seP y9_at_ ((f_X7_begins text texted at_).2) clauses y9_number word) → va_S A s.heap H locs → lv_has ls 3 [(0, .ref (u 0)), (1, .int low), (2, .int high)] → W p l e rm_X7_takesNumber s m args below meth c H locs 0 0 Q (F0 m 56 ls [.int (v_X7_takesNumber_28_0 text texted y9_at_ y9_number), .ref (u 0)]) := by
          intro H locs ls hP hD hS hl
          refine va_put (D := D) (ci := 7) (v := .int (v_X7_takesNumber_28_0 text texted y9_at_ y9_number)) (ty := .int) (C := RX7) (T := TX7) (N := 16) hx hb hts inlX7 tyX7 tyX7_ok nmX7 hown hK hP hD hS 0 rfl rfl 14 (by decide) (kw hts kin_13 5 rfl) (fun _ h9 => h9) rfl (by decide +kernel) rfl rfl (Nat.le_of_ble_eq_true rfl) dX7_takesNumber_56 (fun H locs hP hD hS => ?_)
          have hP : va_P D vwCl (wM cI cZ u w told read isK undoes text texted seen seS seB seP y9_at_ ((f_X7_begins text texted at_).2) clauses (v_X7_takesNumber_28_0 text texted y9_at_ y9_number) word) H := hP
          have hD : va_D A (wM cI cZ u w told read isK undoes text texted seen seS seB seP y9_at_ ((f_X7_begins text texted at_).2) clauses (v_X7_takesNumber_28_0 text texted y9_at_ y9_number) word) := hD
          refine lv_aload_n hx hb dX7_takesNumber_59 rfl (lv_at hl 0 rfl) ?_
          refine lv_dup hx hb dX7_takesNumber_60 rfl ?_
          refine va_get (D := D) (ci := 7) (v := .int y9_at_) (C := RX7) (T := TX7) (N := 16) hx hb hts inlX7 hown hK hP 0 rfl rfl 11 (by decide) (kw hts kin_11 16 rfl) (fun _ h9 => h9) rfl dX7_takesNumber_61 ?_
          refine lv_iconst (v := 1) hx hb dX7_takesNumber_64 (by decide) ?_
          refine lv_iadd hx hb dX7_takesNumber_65 ?_
          refine va_put (D := D) (ci := 7) (v := .int (y9_at_ + 1)) (ty := .int) (C := RX7) (T := TX7) (N := 16) hx hb hts inlX7 tyX7 tyX7_ok nmX7 hown hK hP hD hS 0 rfl rfl 11 (by decide) (kw hts kin_11 16 rfl) (fun _ h9 => h9) rfl (by decide +kernel) rfl rfl (Nat.le_of_ble_eq_true rfl) dX7_takesNumber_66 (fun H locs hP hD hS => ?_)
          have hP : va_P D vwCl (wM cI cZ u w told read isK undoes text texted seen seS seB seP (y9_at_ + 1) ((f_X7_begins text texted at_).2) clauses (v_X7_takesNumber_28_0 text texted y9_at_ y9_number) word) H := hP
          have hD : va_D A (wM cI cZ u w told read isK undoes text texted seen seS seB seP (y9_at_ + 1) ((f_X7_begins text texted at_).2) clauses (v_X7_takesNumber_28_0 text texted y9_at_ y9_number) word) := hD
          refine lv_goto (tgt := 9) hx hb dX7_takesNumber_69 (by decide) ?_
          have hb9 : lo_X7_takesNumber_9 text texted (k9 + 1) y9_at_ y9_number = lo_X7_takesNumber_9 text texted k9 (y9_at_ + 1) (v_X7_takesNumber_28_0 text texted y9_at_ y9_number) := (if_neg c_17)
          exact ih9 (y9_at_ + 1) (v_X7_takesNumber_28_0 text texted y9_at_ y9_number) (kmu hm9 (kdigit c_17)) (kat.succ hv9 (kdigit c_17)) (hb9.symm.trans ea9) _ _ _ hP hD hS (lv_sub hl [0, 1, 2] rfl)
        refine lv_icmp_ge (tgt := 53) hx hb dX7_takesNumber_28 (by decide) (fun c_28 => ?_) (fun c_28 => ?_)
        · skip
          refine lv_sipush (v := 1000) hx hb dX7_takesNumber_53 (by decide) ?_
          rw [show (v_X7_takesNumber_28_0 text texted y9_at_ y9_number) = 1000 from (if_pos c_28)] at J28
          exact J28 _ _ _ hP hD hS (lv_sub hl [0, 1, 2] rfl)
        · skip
          refine lv_bipush (v := 10) hx hb dX7_takesNumber_31 (by decide) ?_
          refine lv_aload_n hx hb dX7_takesNumber_33 rfl (lv_at hl 0 rfl) ?_
          refine va_get (D := D) (ci := 7) (v := .int y9_number) (C := RX7) (T := TX7) (N := 16) hx hb hts inlX7 hown hK hP 0 rfl rfl 14 (by decide) (kw hts kin_13 5 rfl) (fun _ h9 => h9) rfl dX7_takesNumber_34 ?_
          refine lv_imul hx hb dX7_takesNumber_37 ?_
          refine lv_aload_n hx hb dX7_takesNumber_38 rfl (lv_at hl 0 rfl) ?_
          refine lv_aload_n hx hb dX7_takesNumber_39 rfl (lv_at hl 0 rfl) ?_
          refine va_get (D := D) (ci := 7) (v := .int y9_at_) (C := RX7) (T := TX7) (N := 16) hx hb hts inlX7 hown hK hP 0 rfl rfl 11 (by decide) (kw hts kin_11 16 rfl) (fun _ h9 => h9) rfl dX7_takesNumber_40 ?_
          refine kvi (As := [.int y9_at_]) (rest := [.int (10 * y9_number), .ref (u 0)]) (q0 := 0) (ci := 7) ⟨hx, hb, hml, hown, hts⟩ hP hK hD hS hA hE (k_X7_letterAt l D cI cZ  u w told read isK undoes text texted seen seS seB seP y9_at_ ((f_X7_begins text texted at_).2) clauses y9_number word y9_at_ ((hv9).b.wide (by decide) (by decide)) ((hv9).t.wide (by decide) (by decide))) (kcv hts kM_X7_letterAt (kin_12 _ (List.mem_of_getElem? (i := 15) rfl)) ⟨rfl, rfl⟩ ⟨Nat.le_of_ble_eq_true rfl, Nat.le_of_ble_eq_true rfl⟩) kBl_T kOk_T (wM cI cZ u w told read isK undoes text texted seen seS seB seP y9_at_ ((f_X7_begins text texted at_).2) clauses y9_number word) (cut_m_m cI cZ u w told read isK undoes text texted seen seS seB seP y9_at_ ((f_X7_begins text texted at_).2) clauses y9_number word w told read isK undoes text texted seen seS seB seP y9_at_ ((f_X7_begins text texted at_).2) clauses y9_number word).1 (cut_m_m cI cZ u w told read isK undoes text texted seen seS seB seP y9_at_ ((f_X7_begins text texted at_).2) clauses y9_number word w told read isK undoes text texted seen seS seB seP y9_at_ ((f_X7_begins text texted at_).2) clauses y9_number word).2 rfl rfl rfl rfl hl.1 rfl (Nat.le_of_ble_eq_true rfl) dX7_takesNumber_43 (fun H locs hP hD hS => ?_)
          refine lv_iadd hx hb dX7_takesNumber_46 ?_
          refine lv_bipush (v := 48) hx hb dX7_takesNumber_47 (by decide) ?_
          refine lv_isub hx hb dX7_takesNumber_49 ?_
          refine lv_goto (tgt := 56) hx hb dX7_takesNumber_50 (by decide) ?_
          rw [show (v_X7_takesNumber_28_0 text texted y9_at_ y9_number) = (((10 * y9_number) + (f_X7_letterAt text texted y9_at_)) - 48) from (if_neg c_28)] at J28
          exact J28 _ _ _ hP hD hS (lv_sub hl [0, 1, 2] rfl)
  exact lp9 (((texted.toInt - ((f_X7_begins text texted at_).1).toInt).toNat) + 1) ((f_X7_begins text texted at_).1) 0 (Nat.lt_succ_self _) (e_X7_begins text hk) rfl _ _ _ hP hD hS (lv_sub hl [0, 1, 2] rfl)
