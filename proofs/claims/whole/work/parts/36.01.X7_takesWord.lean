def v_X7_takesWord_32_0 (text : Nat → Int32) (texted : Int32) (at_ : Int32) (y9_at_ : Int32) (y9_word : Int64) : Int64 := if 8 ≤ (y9_at_ - ((f_X7_begins text texted at_).2)) then 0 else ((y9_word <<< ((8 : Int32).toInt64 &&& 63)) ||| ((f_X7_letterAt text texted y9_at_).toInt64))
def lo_X7_takesWord_9 (text : Nat → Int32) (texted : Int32) (at_ : Int32) : Nat → Int32 → Int64 → (Int32 × Int64)
  | 0, y9_at_, y9_word => (y9_at_, y9_word)
  | k9 + 1, y9_at_, y9_word => if (f_X7_isSmall text texted y9_at_) = 0 then (y9_at_, y9_word) else (lo_X7_takesWord_9 text texted at_ k9 (y9_at_ + 1) (v_X7_takesWord_32_0 text texted at_ y9_at_ y9_word))
def x_X7_takesWord_9 (text : Nat → Int32) (texted : Int32) (at_ : Int32) : Int32 × Int64 := lo_X7_takesWord_9 text texted at_ (((texted.toInt - ((f_X7_begins text texted at_).1).toInt).toNat) + 1) ((f_X7_begins text texted at_).1) 0
def v_X7_takesWord_84_0 (text : Nat → Int32) (texted : Int32) (at_ : Int32) : Int64 := if (((x_X7_takesWord_9 text texted at_).1) - ((f_X7_begins text texted at_).2)) ≤ 8 then ((x_X7_takesWord_9 text texted at_).2) else 0
def f_X7_takesWord (text : Nat → Int32) (texted : Int32) (at_ : Int32) : Int32 × Int32 × Int64 := (((x_X7_takesWord_9 text texted at_).1), (f_X7_begins text texted at_).2, (v_X7_takesWord_84_0 text texted at_))
abbrev rm_X7_takesWord : Room := { frames := 2, cells := 0, slots := 0, locals := 46 }
theorem ksmall {text : Nat → Int32} {texted k : Int32} (h : ¬ f_X7_isSmall text texted k = 0) : ¬ texted ≤ k := by
  intro e
  have h1 := kin7_iff (v := (f_X7_letterAt text texted k).toInt64) (low := 97) (high := 122) h
  have h2 : f_X7_letterAt text texted k = -1 := by
    unfold f_X7_letterAt v_X7_letterAt_5_0
    rw [if_pos e]
  rw [h2] at h1
  exact absurd h1.1 (by decide)
theorem e_X7_takesWord_lo (text : Nat → Int32) {texted st : Int32} : ∀ (k : Nat) (a : Int32) (z : Int64), kat a texted → kat (lo_X7_takesWord_9 text texted st k a z).1 texted := by
  intro k
  induction k with
  | zero => intro a z h; rw [lo_X7_takesWord_9]; exact h
  | succ k ih =>
    intro a z h
    rw [lo_X7_takesWord_9]
    split
    · exact h
    · rename_i e
      exact ih _ _ (kat.succ h (ksmall e))
theorem e_X7_takesWord (text : Nat → Int32) {texted at_ : Int32} (hk : kat at_ texted) : kat (f_X7_takesWord text texted at_).1 texted := by
  simp only [f_X7_takesWord, x_X7_takesWord_9]
  exact e_X7_takesWord_lo text _ _ _ (e_X7_begins text hk)
set_option maxRecDepth 100000 in
set_option maxHeartbeats 4000000 in
theorem k_X7_takesWord (l : Launch) (D : va_G) (cI cZ : ClassId) (u : Nat → Nat) (w : Nat → Int32) (told : Nat → Int32) (read : Nat → Int32) (isK : Nat → Int32) (undoes : Int32) (text : Nat → Int32) (texted : Int32) (seen : Int32) (seS : Nat → Int32) (seB : Nat → Int32) (seP : Nat → Int32) (at_ : Int32) (start : Int32) (clauses : Int32) (number : Int32) (word : Int64) (hk : kat at_ texted) : CV l D (kTy cI cZ) kT yX7_takesWord (.code yX7_takesWord cX7_takesWord 1 none :: wsL_law) rm_X7_takesWord [.ref (u 0)] (wM cI cZ u w told read isK undoes text texted seen seS seB seP at_ start clauses number word) (wM cI cZ u w told read isK undoes text texted seen seS seB seP ((f_X7_takesWord text texted at_).1) ((f_X7_takesWord text texted at_).2.1) clauses number ((f_X7_takesWord text texted at_).2.2)) := by
  refine CV.of (cc := cX7_takesWord) (maxL := 1) (by decide) rfl (Nat.le_of_ble_eq_true rfl) ?_
  intro p e s m args below meth c A Q ls hx hb hml hts0 hown hA hP hK hD hE hl hret
  have hts : ∀ w ∈ wsL_law, w.before args s = true := fun w h => hts0 w (List.mem_cons_of_mem _ h)
  clear hts0
  have hown : s.vm.findClass RX7 = some m.cls := hown
  have hl : lv_has ls 1 [(0, .ref (u 0))] := hl
  have hS : va_S A s.heap s.heap [] := va_S.rf
  revert hP hS
  suffices hgo : ∀ (H : Heap) (locs : List Loc), va_P D vwCl (wM cI cZ u w told read isK undoes text texted seen seS seB seP at_ start clauses number word) H → va_S A s.heap H locs → W p l e rm_X7_takesWord s m args below meth c H locs 0 0 Q (F0 m 0 ls []) from fun a b => hgo _ _ a b
  intro H locs hP hS
  refine lv_aload_n hx hb dX7_takesWord_0 rfl (lv_at hl 0 rfl) ?_
  refine kvv (As := []) (rest := []) (q0 := 0) (ci := 7) ⟨hx, hb, hml, hown, hts⟩ hP hK hD hS hA hE (k_X7_begins l D cI cZ  u w told read isK undoes text texted seen seS seB seP at_ start clauses number word (hk)) (kcv hts kM_X7_begins (kin_12 _ (List.mem_of_getElem? (i := 11) rfl)) ⟨rfl, rfl⟩ ⟨Nat.le_of_ble_eq_true rfl, Nat.le_of_ble_eq_true rfl⟩) kBl_T kOk_T (wM cI cZ u w told read isK undoes text texted seen seS seB seP ((f_X7_begins text texted at_).1) ((f_X7_begins text texted at_).2) clauses number word) (cut_m_m cI cZ u w told read isK undoes text texted seen seS seB seP at_ start clauses number word w told read isK undoes text texted seen seS seB seP ((f_X7_begins text texted at_).1) ((f_X7_begins text texted at_).2) clauses number word).1 (cut_m_m cI cZ u w told read isK undoes text texted seen seS seB seP at_ start clauses number word w told read isK undoes text texted seen seS seB seP ((f_X7_begins text texted at_).1) ((f_X7_begins text texted at_).2) clauses number word).2 rfl rfl rfl rfl hl.1 rfl (Nat.le_of_ble_eq_true rfl) dX7_takesWord_1 (fun H locs hP hD hS => ?_)
  refine lv_aload_n hx hb dX7_takesWord_4 rfl (lv_at hl 0 rfl) ?_
  refine lv_lconst (v := 0) hx hb dX7_takesWord_5 (by decide) ?_
  refine va_put (D := D) (ci := 7) (v := .long 0) (ty := .long) (C := RX7) (T := TX7) (N := 16) hx hb hts inlX7 tyX7 tyX7_ok nmX7 hown hK hP hD hS 0 rfl rfl 15 (by decide) (kw hts kin_11 23 rfl) (fun _ h9 => h9) rfl (by decide +kernel) rfl rfl (Nat.le_of_ble_eq_true rfl) dX7_takesWord_6 (fun H locs hP hD hS => ?_)
  have hP : va_P D vwCl (wM cI cZ u w told read isK undoes text texted seen seS seB seP ((f_X7_begins text texted at_).1) ((f_X7_begins text texted at_).2) clauses number 0) H := hP
  have hD : va_D A (wM cI cZ u w told read isK undoes text texted seen seS seB seP ((f_X7_begins text texted at_).1) ((f_X7_begins text texted at_).2) clauses number 0) := hD
  have K9 : ∀ (H : Heap) (locs : List Loc) (ls : Array Slot), va_P D vwCl (wM cI cZ u w told read isK undoes text texted seen seS seB seP ((x_X7_takesWord_9 text texted at_).1) ((f_X7_begins text texted at_).2) clauses number ((x_X7_takesWord_9 text texted at_).2)) H → va_D A (wM cI cZ u w told read isK undoes text texted seen seS seB seP ((x_X7_takesWord_9 text texted at_).1) ((f_X7_begins text texted at_).2) clauses number ((x_X7_takesWord_9 text texted at_).2)) → va_S A s.heap H locs → lv_has ls 1 [(0, .ref (u 0))] → W p l e rm_X7_takesWord s m args below meth c H locs 0 0 Q (F0 m 72 ls []) := by
    intro H locs ls hP hD hS hl
    refine lv_aload_n hx hb dX7_takesWord_72 rfl (lv_at hl 0 rfl) ?_
    refine lv_aload_n hx hb dX7_takesWord_73 rfl (lv_at hl 0 rfl) ?_
    refine va_get (D := D) (ci := 7) (v := .int ((x_X7_takesWord_9 text texted at_).1)) (C := RX7) (T := TX7) (N := 16) hx hb hts inlX7 hown hK hP 0 rfl rfl 11 (by decide) (kw hts kin_11 16 rfl) (fun _ h9 => h9) rfl dX7_takesWord_74 ?_
    refine lv_aload_n hx hb dX7_takesWord_77 rfl (lv_at hl 0 rfl) ?_
    refine va_get (D := D) (ci := 7) (v := .int ((f_X7_begins text texted at_).2)) (C := RX7) (T := TX7) (N := 16) hx hb hts inlX7 hown hK hP 0 rfl rfl 12 (by decide) (kw hts kin_11 18 rfl) (fun _ h9 => h9) rfl dX7_takesWord_78 ?_
    refine lv_isub hx hb dX7_takesWord_81 ?_
    refine lv_bipush (v := 8) hx hb dX7_takesWord_82 (by decide) ?_
    have J84 : ∀ (H : Heap) (locs : List Loc) (ls : Array Slot), va_P D vwCl (wM cI cZ u w told read isK undoes text texted seen seS seB seP ((x_X7_takesWord_9 text texted at_).1) ((f_X7_begins text texted at_).2) clauses number ((x_X7_takesWord_9 text texted at_).2)) H → va_D A (wM cI cZ u w told read isK undoes text texted seen seS seB seP ((x_X7_takesWord_9 text texted at_).1) ((f_X7_begins text texted at_).2) clauses number ((x_X7_takesWord_9 text texted at_).2)) → va_S A s.heap H locs → lv_has ls 1 [(0, .ref (u 0))] → W p l e rm_X7_takesWord s m args below meth c H locs 0 0 Q (F0 m 95 ls [.long (v_X7_takesWord_84_0 text texted at_), .ref (u 0)]) := by
      intro H locs ls hP hD hS hl
      refine va_put (D := D) (ci := 7) (v := .long (v_X7_takesWord_84_0 text texted at_)) (ty := .long) (C := RX7) (T := TX7) (N := 16) hx hb hts inlX7 tyX7 tyX7_ok nmX7 hown hK hP hD hS 0 rfl rfl 15 (by decide) (kw hts kin_11 23 rfl) (fun _ h9 => h9) rfl (by decide +kernel) rfl rfl (Nat.le_of_ble_eq_true rfl) dX7_takesWord_95 (fun H locs hP hD hS => ?_)
      have hP : va_P D vwCl (wM cI cZ u w told read isK undoes text texted seen seS seB seP ((x_X7_takesWord_9 text texted at_).1) ((f_X7_begins text texted at_).2) clauses number (v_X7_takesWord_84_0 text texted at_)) H := hP
      have hD : va_D A (wM cI cZ u w told read isK undoes text texted seen seS seB seP ((x_X7_takesWord_9 text texted at_).1) ((f_X7_begins text texted at_).2) clauses number (v_X7_takesWord_84_0 text texted at_)) := hD
      have hf : (f_X7_takesWord text texted at_) = (((x_X7_takesWord_9 text texted at_).1), (f_X7_begins text texted at_).2, (v_X7_takesWord_84_0 text texted at_)) := rfl
      rw [hf] at hret
      dsimp only at hret
      exact hret _ _ _ _ hP hS dX7_takesWord_98
    refine lv_icmp_le (tgt := 91) hx hb dX7_takesWord_84 (by decide) (fun c_84 => ?_) (fun c_84 => ?_)
    · skip
      refine lv_aload_n hx hb dX7_takesWord_91 rfl (lv_at hl 0 rfl) ?_
      refine va_get (D := D) (ci := 7) (v := .long ((x_X7_takesWord_9 text texted at_).2)) (C := RX7) (T := TX7) (N := 16) hx hb hts inlX7 hown hK hP 0 rfl rfl 15 (by decide) (kw hts kin_11 23 rfl) (fun _ h9 => h9) rfl dX7_takesWord_92 ?_
      rw [show (v_X7_takesWord_84_0 text texted at_) = ((x_X7_takesWord_9 text texted at_).2) from (if_pos c_84)] at J84
      exact J84 _ _ _ hP hD hS (lv_sub hl [0] rfl)
    · skip
      refine lv_lconst (v := 0) hx hb dX7_takesWord_87 (by decide) ?_
      refine lv_goto (tgt := 95) hx hb dX7_takesWord_88 (by decide) ?_
      rw [show (v_X7_takesWord_84_0 text texted at_) = 0 from (if_neg c_84)] at J84
      exact J84 _ _ _ hP hD hS (lv_sub hl [0] rfl)
  have lp9 : ∀ (k9 : Nat) (y9_at_ : Int32) (y9_word : Int64), (texted.toInt - y9_at_.toInt).toNat < k9 → kat y9_at_ texted → lo_X7_takesWord_9 text texted at_ k9 y9_at_ y9_word = (x_X7_takesWord_9 text texted at_) → ∀ (H : Heap) (locs : List Loc) (ls : Array Slot), va_P D vwCl (wM cI cZ u w told read isK undoes text texted seen seS seB seP y9_at_ ((f_X7_begins text texted at_).2) clauses number y9_word) H → va_D A (wM cI cZ u w told read isK undoes text texted seen seS seB seP y9_at_ ((f_X7_begins text texted at_).2) clauses number y9_word) → va_S A s.heap H locs → lv_has ls 1 [(0, .ref (u 0))] → W p l e rm_X7_takesWord s m args below meth c H locs 0 0 Q (F0 m 9 ls []) := by
    intro k9
    induction k9 with
    | zero =>
      intro y9_at_ y9_word hm9 hv9 ea9 H locs ls hP hD hS hl
      exact absurd hm9 (Nat.not_lt_zero _)
    | succ k9 ih9 =>
      intro y9_at_ y9_word hm9 hv9 ea9 H locs ls hP hD hS hl
      refine lv_aload_n hx hb dX7_takesWord_9 rfl (lv_at hl 0 rfl) ?_
      refine lv_aload_n hx hb dX7_takesWord_10 rfl (lv_at hl 0 rfl) ?_
      refine va_get (D := D) (ci := 7) (v := .int y9_at_) (C := RX7) (T := TX7) (N := 16) hx hb hts inlX7 hown hK hP 0 rfl rfl 11 (by decide) (kw hts kin_11 16 rfl) (fun _ h9 => h9) rfl dX7_takesWord_11 ?_
      refine kvi (As := [.int y9_at_]) (rest := []) (q0 := 0) (ci := 7) ⟨hx, hb, hml, hown, hts⟩ hP hK hD hS hA hE (k_X7_isSmall l D cI cZ  u w told read isK undoes text texted seen seS seB seP y9_at_ ((f_X7_begins text texted at_).2) clauses number y9_word y9_at_ ((hv9).b.wide (by decide) (by decide)) ((hv9).t.wide (by decide) (by decide))) (kcv hts kM_X7_isSmall (kin_12 _ (List.mem_of_getElem? (i := 19) rfl)) ⟨rfl, rfl⟩ ⟨Nat.le_of_ble_eq_true rfl, Nat.le_of_ble_eq_true rfl⟩) kBl_T kOk_T (wM cI cZ u w told read isK undoes text texted seen seS seB seP y9_at_ ((f_X7_begins text texted at_).2) clauses number y9_word) (cut_m_m cI cZ u w told read isK undoes text texted seen seS seB seP y9_at_ ((f_X7_begins text texted at_).2) clauses number y9_word w told read isK undoes text texted seen seS seB seP y9_at_ ((f_X7_begins text texted at_).2) clauses number y9_word).1 (cut_m_m cI cZ u w told read isK undoes text texted seen seS seB seP y9_at_ ((f_X7_begins text texted at_).2) clauses number y9_word w told read isK undoes text texted seen seS seB seP y9_at_ ((f_X7_begins text texted at_).2) clauses number y9_word).2 rfl rfl rfl rfl hl.1 rfl (Nat.le_of_ble_eq_true rfl) dX7_takesWord_14 (fun H locs hP hD hS => ?_)
      refine lv_if_eq (tgt := 72) hx hb dX7_takesWord_17 (by decide) (fun c_17 => ?_) (fun c_17 => ?_)
      · skip
        have hx9 : (x_X7_takesWord_9 text texted at_) = (y9_at_, y9_word) := (ea9).symm.trans (if_pos c_17)
        rw [show ((x_X7_takesWord_9 text texted at_).1) = y9_at_ from (kpf hx9)] at K9
        rw [show ((x_X7_takesWord_9 text texted at_).2) = y9_word from (id (kps hx9))] at K9
        exact K9 _ _ _ hP hD hS (lv_sub hl [0] rfl)
      · skip
        refine lv_aload_n hx hb dX7_takesWord_20 rfl (lv_at hl 0 rfl) ?_
        refine lv_aload_n hx hb dX7_takesWord_21 rfl (lv_at hl 0 rfl) ?_
        refine va_get (D := D) (ci := 7) (v := .int y9_at_) (C := RX7) (T := TX7) (N := 16) hx hb hts inlX7 hown hK hP 0 rfl rfl 11 (by decide) (kw hts kin_11 16 rfl) (fun _ h9 => h9) rfl dX7_takesWord_22 ?_
        refine lv_aload_n hx hb dX7_takesWord_25 rfl (lv_at hl 0 rfl) ?_
        refine va_get (D := D) (ci := 7) (v := .int ((f_X7_begins text texted at_).2)) (C := RX7) (T := TX7) (N := 16) hx hb hts inlX7 hown hK hP 0 rfl rfl 12 (by decide) (kw hts kin_11 18 rfl) (fun _ h9 => h9) rfl dX7_takesWord_26 ?_
        refine lv_isub hx hb dX7_takesWord_29 ?_
        refine lv_bipush (v := 8) hx hb dX7_takesWord_30 (by decide) ?_
        have J32 : ∀ (H : Heap) (locs : List Loc) (ls : Array Slot), va_P D vwCl (wM cI cZ u w told read isK undoes text texted seen seS seB seP y9_at_ ((f_X7_begins text texted at_).2) clauses number y9_word) H → va_D A (wM cI cZ u w told read isK undoes text texted seen seS seB seP y9_at_ ((f_X7_begins text texted at_).2) clauses number y9_word) → va_S A s.heap H locs → lv_has ls 1 [(0, .ref (u 0))] → W p l e rm_X7_takesWord s m args below meth c H locs 0 0 Q (F0 m 56 ls [.long (v_X7_takesWord_32_0 text texted at_ y9_at_ y9_word), .ref (u 0)]) := by
          intro H locs ls hP hD hS hl
          refine va_put (D := D) (ci := 7) (v := .long (v_X7_takesWord_32_0 text texted at_ y9_at_ y9_word)) (ty := .long) (C := RX7) (T := TX7) (N := 16) hx hb hts inlX7 tyX7 tyX7_ok nmX7 hown hK hP hD hS 0 rfl rfl 15 (by decide) (kw hts kin_11 23 rfl) (fun _ h9 => h9) rfl (by decide +kernel) rfl rfl (Nat.le_of_ble_eq_true rfl) dX7_takesWord_56 (fun H locs hP hD hS => ?_)
          have hP : va_P D vwCl (wM cI cZ u w told read isK undoes text texted seen seS seB seP y9_at_ ((f_X7_begins text texted at_).2) clauses number (v_X7_takesWord_32_0 text texted at_ y9_at_ y9_word)) H := hP
          have hD : va_D A (wM cI cZ u w told read isK undoes text texted seen seS seB seP y9_at_ ((f_X7_begins text texted at_).2) clauses number (v_X7_takesWord_32_0 text texted at_ y9_at_ y9_word)) := hD
          refine lv_aload_n hx hb dX7_takesWord_59 rfl (lv_at hl 0 rfl) ?_
          refine lv_dup hx hb dX7_takesWord_60 rfl ?_
          refine va_get (D := D) (ci := 7) (v := .int y9_at_) (C := RX7) (T := TX7) (N := 16) hx hb hts inlX7 hown hK hP 0 rfl rfl 11 (by decide) (kw hts kin_11 16 rfl) (fun _ h9 => h9) rfl dX7_takesWord_61 ?_
          refine lv_iconst (v := 1) hx hb dX7_takesWord_64 (by decide) ?_
          refine lv_iadd hx hb dX7_takesWord_65 ?_
          refine va_put (D := D) (ci := 7) (v := .int (y9_at_ + 1)) (ty := .int) (C := RX7) (T := TX7) (N := 16) hx hb hts inlX7 tyX7 tyX7_ok nmX7 hown hK hP hD hS 0 rfl rfl 11 (by decide) (kw hts kin_11 16 rfl) (fun _ h9 => h9) rfl (by decide +kernel) rfl rfl (Nat.le_of_ble_eq_true rfl) dX7_takesWord_66 (fun H locs hP hD hS => ?_)
          have hP : va_P D vwCl (wM cI cZ u w told read isK undoes text texted seen seS seB seP (y9_at_ + 1) ((f_X7_begins text texted at_).2) clauses number (v_X7_takesWord_32_0 text texted at_ y9_at_ y9_word)) H := hP
          have hD : va_D A (wM cI cZ u w told read isK undoes text texted seen seS seB seP (y9_at_ + 1) ((f_X7_begins text texted at_).2) clauses number (v_X7_takesWord_32_0 text texted at_ y9_at_ y9_word)) := hD
          refine lv_goto (tgt := 9) hx hb dX7_takesWord_69 (by decide) ?_
          have hb9 : lo_X7_takesWord_9 text texted at_ (k9 + 1) y9_at_ y9_word = lo_X7_takesWord_9 text texted at_ k9 (y9_at_ + 1) (v_X7_takesWord_32_0 text texted at_ y9_at_ y9_word) := (if_neg c_17)
          exact ih9 (y9_at_ + 1) (v_X7_takesWord_32_0 text texted at_ y9_at_ y9_word) (kmu hm9 (ksmall c_17)) (kat.succ hv9 (ksmall c_17)) (hb9.symm.trans ea9) _ _ _ hP hD hS (lv_sub hl [0] rfl)
        refine lv_icmp_ge (tgt := 55) hx hb dX7_takesWord_32 (by decide) (fun c_32 => ?_) (fun c_32 => ?_)
        · skip
          refine lv_lconst (v := 0) hx hb dX7_takesWord_55 (by decide) ?_
          rw [show (v_X7_takesWord_32_0 text texted at_ y9_at_ y9_word) = 0 from (if_pos c_32)] at J32
          exact J32 _ _ _ hP hD hS (lv_sub hl [0] rfl)
        · skip
          refine lv_aload_n hx hb dX7_takesWord_35 rfl (lv_at hl 0 rfl) ?_
          refine va_get (D := D) (ci := 7) (v := .long y9_word) (C := RX7) (T := TX7) (N := 16) hx hb hts inlX7 hown hK hP 0 rfl rfl 15 (by decide) (kw hts kin_11 23 rfl) (fun _ h9 => h9) rfl dX7_takesWord_36 ?_
          refine lv_bipush (v := 8) hx hb dX7_takesWord_39 (by decide) ?_
          refine lv_lshl (v := y9_word <<< ((8 : Int32).toInt64 &&& 63)) hx hb dX7_takesWord_41 rfl ?_
          refine lv_aload_n hx hb dX7_takesWord_42 rfl (lv_at hl 0 rfl) ?_
          refine lv_aload_n hx hb dX7_takesWord_43 rfl (lv_at hl 0 rfl) ?_
          refine va_get (D := D) (ci := 7) (v := .int y9_at_) (C := RX7) (T := TX7) (N := 16) hx hb hts inlX7 hown hK hP 0 rfl rfl 11 (by decide) (kw hts kin_11 16 rfl) (fun _ h9 => h9) rfl dX7_takesWord_44 ?_
          refine kvi (As := [.int y9_at_]) (rest := [.long (y9_word <<< ((8 : Int32).toInt64 &&& 63)), .ref (u 0)]) (q0 := 0) (ci := 7) ⟨hx, hb, hml, hown, hts⟩ hP hK hD hS hA hE (k_X7_letterAt l D cI cZ  u w told read isK undoes text texted seen seS seB seP y9_at_ ((f_X7_begins text texted at_).2) clauses number y9_word y9_at_ ((hv9).b.wide (by decide) (by decide)) ((hv9).t.wide (by decide) (by decide))) (kcv hts kM_X7_letterAt (kin_12 _ (List.mem_of_getElem? (i := 15) rfl)) ⟨rfl, rfl⟩ ⟨Nat.le_of_ble_eq_true rfl, Nat.le_of_ble_eq_true rfl⟩) kBl_T kOk_T (wM cI cZ u w told read isK undoes text texted seen seS seB seP y9_at_ ((f_X7_begins text texted at_).2) clauses number y9_word) (cut_m_m cI cZ u w told read isK undoes text texted seen seS seB seP y9_at_ ((f_X7_begins text texted at_).2) clauses number y9_word w told read isK undoes text texted seen seS seB seP y9_at_ ((f_X7_begins text texted at_).2) clauses number y9_word).1 (cut_m_m cI cZ u w told read isK undoes text texted seen seS seB seP y9_at_ ((f_X7_begins text texted at_).2) clauses number y9_word w told read isK undoes text texted seen seS seB seP y9_at_ ((f_X7_begins text texted at_).2) clauses number y9_word).2 rfl rfl rfl rfl hl.1 rfl (Nat.le_of_ble_eq_true rfl) dX7_takesWord_47 (fun H locs hP hD hS => ?_)
          refine lv_i2l (v := (f_X7_letterAt text texted y9_at_).toInt64) hx hb dX7_takesWord_50 rfl ?_
          refine lv_lor hx hb dX7_takesWord_51 ?_
          refine lv_goto (tgt := 56) hx hb dX7_takesWord_52 (by decide) ?_
          rw [show (v_X7_takesWord_32_0 text texted at_ y9_at_ y9_word) = ((y9_word <<< ((8 : Int32).toInt64 &&& 63)) ||| ((f_X7_letterAt text texted y9_at_).toInt64)) from (if_neg c_32)] at J32
          exact J32 _ _ _ hP hD hS (lv_sub hl [0] rfl)
  exact lp9 (((texted.toInt - ((f_X7_begins text texted at_).1).toInt).toNat) + 1) ((f_X7_begins text texted at_).1) 0 (Nat.lt_succ_self _) (e_X7_begins text hk) rfl _ _ _ hP hD hS (lv_sub hl [0] rfl)
