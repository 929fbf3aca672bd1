/-! strips that are tried: what a barber knows behind them -/
def stepT (told : Nat → Int32) (p : Nat) (act : Nat → Bool) (be : Nat → Nat) (i : Nat) (z : Nat → Int32) : Nat → Int32 :=
  if act i then (f_X7_shaves z told (nI 255) (nI (be i)) (nI p) (nI i)).2 else z
theorem tries_gen (w y told : Nat → Int32) {p b : Nat} (hp : p < 6) (hb : b < 4) (act : Nat → Bool) (be : Nat → Nat) (hbe : ∀ i, i < 6 → be i < 4) (hy : ∀ j, j < 85 → y j = w j) (tt : Nat → Int32) (htt : ∀ k, k < 6 → tt k = f_X7_tells told (nI p) (nI k) (w (1 + (6 * p + k)))) (hv : ∀ k, k < 6 → tt k = 0 ∨ tt k = 1 ∨ tt k = -1) :
    let z := lp (stepT told p act be) (f_X7_copy y (nI 0) (nI 255)) 6
    (∀ j, (j < 255 ∨ 340 ≤ j) → z j = y j) ∧
    (∀ j, j < 32 → bt (z (255 + (37 + (6 * b + p)))) j = (bt (w (37 + (6 * b + p))) j || (decide (j < 6) && (act j && (decide (be j = b) && !decide (tt j = -1)))))) ∧
    (∀ j, j < 32 → bt (z (255 + (61 + (6 * b + p)))) j = if (decide (j < 6) && (act j && (decide (be j = b) && !decide (tt j = -1)))) = true then decide (tt j = 1) else bt (w (61 + (6 * b + p))) j) := by
  intro z
  have h := lp_ind (f := stepT told p act be) (a := f_X7_copy y (nI 0) (nI 255)) (fun i z =>
    (∀ j, (j < 255 ∨ 340 ≤ j) → z j = y j) ∧
    (∀ k, i ≤ k → k < 6 → z (255 + (1 + (6 * p + k))) = w (1 + (6 * p + k))) ∧
    (∀ j, j < 32 → bt (z (255 + (37 + (6 * b + p)))) j = (bt (w (37 + (6 * b + p))) j || (decide (j < i) && (act j && (decide (be j = b) && !decide (tt j = -1)))))) ∧
    (∀ j, j < 32 → bt (z (255 + (61 + (6 * b + p)))) j = if (decide (j < i) && (act j && (decide (be j = b) && !decide (tt j = -1)))) = true then decide (tt j = 1) else bt (w (61 + (6 * b + p))) j)) 6 ?_ ?_
  · exact ⟨h.1, h.2.2.1, h.2.2.2⟩
  · have hc : ∀ j, f_X7_copy y (nI 0) (nI 255) j = if 255 ≤ j ∧ j < 255 + 85 then y (0 + (j - 255)) else y j := fun j => copy_at y (by omega) (by omega) (by omega) j
    refine ⟨fun j hj => by rw [hc, if_neg (by omega)], fun k _ hk => ?_, fun j hj => ?_, fun j hj => ?_⟩
    · rw [hc, if_pos (by omega), hy _ (by omega)]
      exact congrArg w (by omega)
    · rw [hc, if_pos (by omega), hy _ (by omega)]
      have e : 0 + (255 + (37 + (6 * b + p)) - 255) = 37 + (6 * b + p) := by omega
      rw [e]; simp
    · rw [hc, if_pos (by omega), hy _ (by omega)]
      have e : 0 + (255 + (61 + (6 * b + p)) - 255) = 61 + (6 * b + p) := by omega
      rw [e]; simp
  · intro i z hi ih
    obtain ⟨i1, i2, i3, i4⟩ := ih
    unfold stepT
    by_cases c : act i = true
    · rw [if_pos c]
      have hbi := hbe i hi
      have esh := shaves_at z told (r := 255) (b := be i) (p := p) (k := i) (by omega) hbi hp hi (t := tt i) (by rw [htt i hi, i2 i (Nat.le_refl _) hi])
      rw [esh]
      dsimp only
      refine ⟨fun j hj => ?_, fun k hk hk6 => ?_, fun j hj => ?_, fun j hj => ?_⟩
      · rw [un (by omega)]
        by_cases ct : tt i = -1
        · rw [if_pos ct]; exact i1 j hj
        · rw [if_neg ct, un (by omega), un (by omega)]; exact i1 j hj
      · rw [un (by omega)]
        by_cases ct : tt i = -1
        · rw [if_pos ct]; exact i2 k (by omega) hk6
        · rw [if_neg ct, un (by omega), un (by omega)]; exact i2 k (by omega) hk6
      · rw [un (by omega)]
        by_cases ct : tt i = -1
        · rw [if_pos ct, i3 j hj]
          by_cases e : j = i
          · subst e; simp [ct]
          · rw [show decide (j < i + 1) = decide (j < i) from decide_eq_decide.mpr (by omega)]
        · rw [if_neg ct, un (by omega)]
          by_cases cb : be i = b
          · rw [cb, us, bt_or, bt_one i j (by omega) hj, i3 j hj]
            by_cases e : j = i
            · subst e; simp [ct, c, cb]
            · rw [show decide (j < i + 1) = decide (j < i) from decide_eq_decide.mpr (by omega)]
              simp [e]
          · rw [un (by omega), i3 j hj]
            by_cases e : j = i
            · subst e; simp [cb]
            · rw [show decide (j < i + 1) = decide (j < i) from decide_eq_decide.mpr (by omega)]
      · rw [un (by omega)]
        by_cases ct : tt i = -1
        · rw [if_pos ct, i4 j hj]
          by_cases e : j = i
          · subst e; simp [ct]
          · rw [show decide (j < i + 1) = decide (j < i) from decide_eq_decide.mpr (by omega)]
        · rw [if_neg ct]
          by_cases cb : be i = b
          · rw [cb, us]
            by_cases e : j = i
            · subst e
              by_cases c1 : tt j = 1
              · rw [if_pos c1, bt_or, bt_one j j (by omega) hj]
                simp [ct, c, cb, c1]
              · rw [if_neg c1, bt_and, bt_not _ j hj, bt_one j j (by omega) hj]
                simp [ct, c, cb, c1]
            · have e3 : bt (if tt i = 1 then z (255 + (61 + (6 * b + p))) ||| (1 <<< (nI i &&& 31)) else z (255 + (61 + (6 * b + p))) &&& ((1 <<< (nI i &&& 31)) ^^^ (-1))) j = bt (z (255 + (61 + (6 * b + p)))) j := by
                by_cases c1 : tt i = 1
                · rw [if_pos c1, bt_or, bt_one i j (by omega) hj]; simp [e]
                · rw [if_neg c1, bt_and, bt_not _ j hj, bt_one i j (by omega) hj]; simp [e]
              rw [e3, i4 j hj, show decide (j < i + 1) = decide (j < i) from decide_eq_decide.mpr (by omega)]
          · rw [un (by omega), un (by omega), i4 j hj]
            by_cases e : j = i
            · subst e; simp [cb]
            · rw [show decide (j < i + 1) = decide (j < i) from decide_eq_decide.mpr (by omega)]
    · rw [if_neg c]
      refine ⟨i1, fun k hk hk6 => i2 k (by omega) hk6, fun j hj => ?_, fun j hj => ?_⟩
      · rw [i3 j hj]
        by_cases e : j = i
        · subst e; simp [c]
        · rw [show decide (j < i + 1) = decide (j < i) from decide_eq_decide.mpr (by omega)]
      · rw [i4 j hj]
        by_cases e : j = i
        · subst e; simp [c]
        · rw [show decide (j < i + 1) = decide (j < i) from decide_eq_decide.mpr (by omega)]
/-- the class's sets of strips, by bits -/
theorem telling_bits {B P R : Nat} {tb tp tr : Int32} {knd sec brd rms told s w : Nat → Int32} (hT : RT B P R tb tp tr knd sec brd rms told) (hN : SN B P s w) {p : Nat} (hp : p < P) (tt : Nat → Int32) (htt : ∀ k, k < 6 → tt k = f_X7_tells told (nI p) (nI k) (w (1 + (6 * p + k)))) (j : Nat) (hj : j < 32) : bt (f_X6_stripsTelling knd sec s (nI p)) j = (decide (j < 6) && !decide (tt j = -1)) := by
  unfold f_X6_stripsTelling x_X6_stripsTelling_4
  have h := lp_ind (f := fun iz z => nx_X6_stripsTelling_4 knd sec s (nI p) iz z) (a := (0 : Int32)) (fun i z => ∀ j, j < 32 → bt z j = (decide (j < i) && !decide (tt j = -1))) 6 (fun j _ => by rw [bt_0]; simp) (fun i z hi ih j hj => ?_)
  · exact h j hj
  · show bt (v_X6_stripsTelling_17_0 knd sec s (nI p) i z) j = _
    unfold v_X6_stripsTelling_17_0
    rw [tellsNow_eq hT hN hp hi, ← htt i hi]
    by_cases ct : tt i = -1
    · rw [if_pos ct, ih j hj]
      by_cases e : j = i
      · subst e; simp [ct]
      · rw [show decide (j < i + 1) = decide (j < i) from decide_eq_decide.mpr (by omega)]
    · rw [if_neg ct, bt_or, bt_one i j (by omega) hj, ih j hj]
      by_cases e : j = i
      · subst e; simp [ct]
      · rw [show decide (j < i + 1) = decide (j < i) from decide_eq_decide.mpr (by omega)]; simp [e]
theorem told_bits {B P R : Nat} {tb tp tr : Int32} {knd sec brd rms told s w : Nat → Int32} (hT : RT B P R tb tp tr knd sec brd rms told) (hN : SN B P s w) {p : Nat} (hp : p < P) (tt : Nat → Int32) (htt : ∀ k, k < 6 → tt k = f_X7_tells told (nI p) (nI k) (w (1 + (6 * p + k)))) (j : Nat) (hj : j < 32) : bt (f_X6_partsTold knd sec s (nI p)) j = (decide (j < 6) && decide (tt j = 1)) := by
  unfold f_X6_partsTold x_X6_partsTold_4
  have h := lp_ind (f := fun iz z => nx_X6_partsTold_4 knd sec s (nI p) iz z) (a := (0 : Int32)) (fun i z => ∀ j, j < 32 → bt z j = (decide (j < i) && decide (tt j = 1))) 6 (fun j _ => by rw [bt_0]; simp) (fun i z hi ih j hj => ?_)
  · exact h j hj
  · show bt (v_X6_partsTold_17_0 knd sec s (nI p) i z) j = _
    unfold v_X6_partsTold_17_0
    rw [tellsNow_eq hT hN hp hi, ← htt i hi]
    by_cases ct : tt i = 1
    · rw [if_pos ct, bt_or, bt_one i j (by omega) hj, ih j hj]
      by_cases e : j = i
      · subst e; simp [ct]
      · rw [show decide (j < i + 1) = decide (j < i) from decide_eq_decide.mpr (by omega)]; simp [e]
    · rw [if_neg ct, ih j hj]
      by_cases e : j = i
      · subst e; simp [ct]
      · rw [show decide (j < i + 1) = decide (j < i) from decide_eq_decide.mpr (by omega)]
/-- fittingBehind is what the reference counts behind the strips tried -/
theorem behind_eq {B P R : Nat} {tb tp tr : Int32} {knd sec brd rms told s w y : Nat → Int32} (hT : RT B P R tb tp tr knd sec brd rms told) (hN : SN B P s w) {p b : Nat} (hp : p < P) (hb : b < 4) (act : Nat → Bool) (be : Nat → Nat) (hbe : ∀ i, i < 6 → be i < 4) (hy : ∀ j, j < 85 → y j = w j) (set : Int32) (hset : ∀ j, j < 6 → bt set j = (act j && decide (be j = b))) :
    (∀ j, (j < 255 ∨ 340 ≤ j) → lp (stepT told p act be) (f_X7_copy y (nI 0) (nI 255)) 6 j = y j) ∧
    f_X6_fittingBehind tr rms s (nI b) (nI p) (set &&& f_X6_stripsTelling knd sec s (nI p)) (f_X6_partsTold knd sec s (nI p)) = f_X7_many (f_X7_fitsOf (lp (stepT told p act be) (f_X7_copy y (nI 0) (nI 255)) 6) told (nI 255) (nI b) (nI p)) := by
  have hP6 := hT.B.2.2.2.2.2.1
  have b4 := hT.B.2.2.2.2.2.2
  have hp6 : p < 6 := by omega
  obtain ⟨tt, htt⟩ : ∃ tt : Nat → Int32, ∀ k, k < 6 → tt k = f_X7_tells told (nI p) (nI k) (w (1 + (6 * p + k))) := ⟨fun k => f_X7_tells told (nI p) (nI k) (w (1 + (6 * p + k))), fun k _ => rfl⟩
  have hv : ∀ k, k < 6 → tt k = 0 ∨ tt k = 1 ∨ tt k = -1 := fun k hk => by
    rw [htt k hk]
    exact tells_vals (told := told) (p := p) (nI k) _ rfl (i := k) (by omega)
  obtain ⟨g1, g2, g3⟩ := tries_gen w y told hp6 hb act be hbe hy tt htt hv
  refine ⟨g1, ?_⟩
  rw [fitsOf_at hb hp6 255 (by omega)]
  have ek : w (37 + (6 * b + p)) ||| (set &&& f_X6_stripsTelling knd sec s (nI p)) = lp (stepT told p act be) (f_X7_copy y (nI 0) (nI 255)) 6 (255 + (37 + (6 * b + p))) := by
    refine bt_ext fun j hj => ?_
    rw [bt_or, bt_and, telling_bits hT hN hp tt htt j hj, g2 j hj]
    by_cases c : j < 6
    · rw [hset j c]
      cases bt (w (37 + (6 * b + p))) j <;> cases act j <;> simp [c]
    · simp [c]
  have ep : f_X6_replaced (w (61 + (6 * b + p))) (set &&& f_X6_stripsTelling knd sec s (nI p)) (f_X6_partsTold knd sec s (nI p)) = lp (stepT told p act be) (f_X7_copy y (nI 0) (nI 255)) 6 (255 + (61 + (6 * b + p))) := by
    unfold f_X6_replaced
    refine bt_ext fun j hj => ?_
    rw [bt_or, bt_and, bt_not _ j hj]
    simp only [bt_and]
    rw [telling_bits hT hN hp tt htt j hj, told_bits hT hN hp tt htt j hj, g3 j hj]
    by_cases c : j < 6
    · rw [hset j c]
      by_cases c1 : tt j = -1
      · cases bt (w (61 + (6 * b + p))) j <;> cases act j <;> simp [c, c1]
      · by_cases c2 : be j = b
        · cases bt (w (61 + (6 * b + p))) j <;> cases act j <;> simp [c, c1, c2]
        · cases bt (w (61 + (6 * b + p))) j <;> cases act j <;> simp [c, c1, c2]
    · simp [c]
  have hwi : f_X6_replaced (w (61 + (6 * b + p))) (set &&& f_X6_stripsTelling knd sec s (nI p)) (f_X6_partsTold knd sec s (nI p)) &&& (w (37 + (6 * b + p)) ||| (set &&& f_X6_stripsTelling knd sec s (nI p))) = f_X6_replaced (w (61 + (6 * b + p))) (set &&& f_X6_stripsTelling knd sec s (nI p)) (f_X6_partsTold knd sec s (nI p)) := by
    generalize set &&& f_X6_stripsTelling knd sec s (nI p) = S
    generalize f_X6_partsTold knd sec s (nI p) = T
    unfold f_X6_replaced
    have h2 := hN.within hb hp6
    refine bt_ext fun j hj => ?_
    have g := congrArg (fun z => bt z j) h2
    simp only [bt_and] at g
    rw [bt_and, bt_or, bt_and, bt_not _ j hj, bt_and, bt_or]
    revert g
    cases bt (w (61 + (6 * b + p))) j <;> cases bt (w (37 + (6 * b + p))) j <;> cases bt S j <;> cases bt T j <;> simp
  unfold f_X6_fittingBehind
  rw [known_at hb hp6, parts_at hb hp6, hN.known hb hp6, hN.parts hb hp6, fits_eq hT hwi, cnt_many (fits_kb b4 hT.t.2.2 _ _), ek, ep]
