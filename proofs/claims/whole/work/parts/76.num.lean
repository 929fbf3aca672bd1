/-! numbers of the text -/
def dv (tx : Nat → Nat) (b : Nat) : Nat → Nat
  | 0 => 0
  | k + 1 => 10 * dv tx b k + (tx (b + k) - 48)
theorem so2 {c : Nat} (h : so c = 2) : 48 ≤ c ∧ c ≤ 57 := by
  unfold so at h
  split at h
  · cases h
  · split at h
    · assumption
    · cases h
theorem so1 {c : Nat} (h : so c = 1) : 97 ≤ c ∧ c ≤ 122 := by
  unfold so at h
  split at h
  · assumption
  · split at h <;> cases h
section NX
variable {n : Nat} {tx : Nat → Nat} {lets text : Nat → Int32}
theorem dv_le {b k : Nat} (hd : ∀ q, q < k → 48 ≤ tx (b + q) ∧ tx (b + q) ≤ 57) (hk : k ≤ 2) : dv tx b k < 100 ∧ (k ≤ 1 → dv tx b k < 10) := by
  rcases (show k = 0 ∨ k = 1 ∨ k = 2 by omega) with rfl | rfl | rfl
  · simp [dv]
  · have h0 := hd 0 (by omega)
    simp only [dv]
    omega
  · have h0 := hd 0 (by omega)
    have h1 := hd 1 (by omega)
    simp only [dv]
    omega
theorem dig_step {d c : Nat} (hd : d < 10) (h1 : 48 ≤ c) (h2 : c ≤ 57) : (nI d * 10 + nI c) - 48 = nI (10 * d + (c - 48)) ∧ (10 * nI d + nI c) - 48 = nI (10 * d + (c - 48)) := by
  have e1 : nI d * (10 : Int32) = nI (d * 10) := nI_mul d 10
  have e2 : (10 : Int32) * nI d = nI (10 * d) := nI_mul 10 d
  rw [e1, e2, nI_add, nI_add]
  constructor
  · rw [show nI (d * 10 + c) - (48 : Int32) = nI (d * 10 + c - 48) from nI_sub (b := 48) (by omega) (by omega)]
    congr 1; omega
  · rw [show nI (10 * d + c) - (48 : Int32) = nI (10 * d + c - 48) from nI_sub (b := 48) (by omega) (by omega)]
    congr 1; omega
theorem dig6 (h : TXT n tx lets text) {b f : Nat} (hf : f ≤ n) (hbf : f - b ≤ 2) (hd : ∀ j, b ≤ j → j < f → 48 ≤ tx j ∧ tx j ≤ 57) : ∀ (fuel i : Nat), b ≤ i → i ≤ f → f - i < fuel → lo_X1_numberHere_45 (nI f) lets fuel (nI (dv tx b (i - b))) (nI i) = nI (dv tx b (f - b)) := by
  have hn := h.1
  intro fuel
  induction fuel with
  | zero => exact fun i _ _ h2 => absurd h2 (by omega)
  | succ fuel ih =>
    intro i hbi hif hfu
    show (if nI f ≤ nI i then nI (dv tx b (i - b)) else lo_X1_numberHere_45 (nI f) lets fuel (((nI (dv tx b (i - b)) * 10) + f_X0_at 160 lets (nI i)) - 48) (nI i + 1)) = _
    by_cases c : i < f
    · rw [if_neg (by rw [nI_leI (by omega) (by omega)]; omega), let_at h (by omega), nI_1]
      have hb2 := dv_le (tx := tx) (b := b) (k := i - b) (fun q hq => hd (b + q) (by omega) (by omega)) (by omega)
      rw [(dig_step (hb2.2 (by omega)) (hd i hbi c).1 (hd i hbi c).2).1]
      have e : 10 * dv tx b (i - b) + (tx i - 48) = dv tx b (i + 1 - b) := by
        rw [show i + 1 - b = (i - b) + 1 by omega]
        show _ = 10 * dv tx b (i - b) + (tx (b + (i - b)) - 48)
        rw [show b + (i - b) = i by omega]
      rw [e]
      exact ih (i + 1) (by omega) (by omega) (by omega)
    · rw [if_pos ((nI_leI (by omega) (by omega)).mpr (by omega)), show i = f by omega]
theorem dig7 (h : TXT n tx lets text) {b : Nat} : ∀ (fuel i : Nat) (num : Int32), b ≤ i → i ≤ n → n - i < fuel → (∀ j, b ≤ j → j < i → SoAt n tx 2 j) → (i - b ≤ 2 → num = nI (dv tx b (i - b))) → ∃ r num', r ≤ n ∧ En (SoAt n tx 2) i r ∧ lo_X7_takesNumber_9 text (nI n) fuel (nI i) num = (nI r, num') ∧ (r - b ≤ 2 → num' = nI (dv tx b (r - b))) := by
  have hn := h.1
  intro fuel
  induction fuel with
  | zero => exact fun i _ _ _ h2 => absurd h2 (by omega)
  | succ fuel ih =>
    intro i num hbi hi hfu hall hnum
    show ∃ r num', r ≤ n ∧ En (SoAt n tx 2) i r ∧ (if f_X7_isDigit text (nI n) (nI i) = 0 then (nI i, num) else lo_X7_takesNumber_9 text (nI n) fuel (nI i + 1) (v_X7_takesNumber_28_0 text (nI n) (nI i) num)) = (nI r, num') ∧ (r - b ≤ 2 → num' = nI (dv tx b (r - b)))
    by_cases c : SoAt n tx 2 i
    · rw [if_neg (fun z => absurd c ((isDigit_at h hi).mp z)), nI_1]
      have hin := c.1
      have hci := so2 c.2
      obtain ⟨r, num', r1, r2, r3, r4⟩ := ih (i + 1) (v_X7_takesNumber_28_0 text (nI n) (nI i) num) (by omega) (by omega) (by omega) (fun j h1 h2 => by
        by_cases e : j = i
        · subst e; exact c
        · exact hall j h1 (by omega)) (fun hle => by
        have e1 := hnum (by omega)
        have hb2 := dv_le (tx := tx) (b := b) (k := i - b) (fun q hq => so2 (hall (b + q) (by omega) (by omega)).2) (by omega)
        have hd10 := hb2.2 (by omega)
        unfold v_X7_takesNumber_28_0
        rw [e1, if_neg (show ¬ (1000 : Int32) ≤ nI (dv tx b (i - b)) from fun z => absurd ((nI_leI (a := 1000) (by omega) (by omega)).mp z) (by omega)), letterAt_in h hin, (dig_step hd10 hci.1 hci.2).2]
        rw [show i + 1 - b = (i - b) + 1 by omega]
        show _ = nI (10 * dv tx b (i - b) + (tx (b + (i - b)) - 48))
        rw [show b + (i - b) = i by omega])
      exact ⟨r, num', r1, r2.next c, r3, r4⟩
    · rw [if_pos ((isDigit_at h hi).mpr c)]
      exact ⟨i, num, hi, En.here c, rfl, hnum⟩
/-- a number that must stand between lo and hi: both sides fail at the same place, or read it alike -/
theorem num_at (h : TXT n tx lets text) {e : Nat} (he : e ≤ n) (lo hi : Int32) (hlo : 0 ≤ lo.toInt) (c which : Int32) (nums : Nat → Int32) :
    ∃ b, b ≤ n ∧ ((∃ X A N, f_X1_readNumber (nI n) c (nI e) lets nums which lo hi = (0, nI b, X, nums) ∧ f_X7_takesNumber text (nI n) (nI e) lo hi = (0, A, nI b, N)) ∨
      (∃ f v : Nat, f ≤ n ∧ v < 100 ∧ lo.toInt ≤ (v : Int) ∧ (v : Int) ≤ hi.toInt ∧ f_X1_readNumber (nI n) c (nI e) lets nums which lo hi = (1, nI b, nI f, f_X0_put 42 nums ((c * 3) + which) (nI v)) ∧ f_X7_takesNumber text (nI n) (nI e) lo hi = (1, nI f, nI b, nI v))) := by
  have hn := h.1
  obtain ⟨b, f, b1, f1, bf, b2, est, ebe, sb, sf⟩ := step_at h he
  obtain ⟨r, num, r1, r2, r3, r4⟩ := dig7 h (b := b) (n - b + 1) b 0 (Nat.le_refl b) b1 (by omega) (fun j h1 h2 => absurd h2 (by omega)) (fun _ => by rw [Nat.sub_self]; rfl)
  have e9 : x_X7_takesNumber_9 text (nI n) (nI e) = (nI r, num) := by
    unfold x_X7_takesNumber_9
    rw [ebe]
    dsimp only
    rw [fuel_of hn b1, r3]
  have e7 : f_X7_takesNumber text (nI n) (nI e) lo hi = ((if nI r ≤ nI b then 0 else (if 3 ≤ nI r - nI b then 0 else (if f_X7_in num.toInt64 lo.toInt64 hi.toInt64 = 0 then 0 else 1))), nI r, nI b, num) := by
    unfold f_X7_takesNumber v_X7_takesNumber_80_0
    rw [e9, ebe]
  have e6 : f_X1_readNumber (nI n) c (nI e) lets nums which lo hi = if f_X1_numberHere (nI n) (nI b) (nI f) lets < lo then (0, nI b, nI f, nums) else (if f_X1_numberHere (nI n) (nI b) (nI f) lets ≤ hi then (1, nI b, nI f, f_X0_put 42 nums ((c * 3) + which) (f_X1_numberHere (nI n) (nI b) (nI f) lets)) else (0, nI b, nI f, nums)) := by
    unfold f_X1_readNumber
    rw [est]
  have hneg : (-1 : Int32) < lo := by
    rw [Int32.lt_iff_toInt_lt]
    show (-1 : Int) < lo.toInt
    omega
  have hr := r2.1
  refine ⟨b, b1, ?_⟩
  by_cases cd2 : SoAt n tx 2 b
  · obtain ⟨c1, c2⟩ := cd2
    obtain ⟨q1, q2, q3⟩ := sf c1
    have hE := q3 (by rw [c2]; omega)
    rw [c2] at hE
    have erf : r = f := r2.uniq hE
    subst erf
    have hdig : ∀ j, b ≤ j → j < r → 48 ≤ tx j ∧ tx j ≤ 57 := fun j h1 h2 => so2 (r2.2.1 j h1 h2).2
    rw [if_neg (by rw [nI_leI (by omega) (by omega)]; omega), sub_at bf (by omega)] at e7
    by_cases c3 : r - b ≤ 2
    · have enum := r4 c3
      have hv := dv_le (tx := tx) (b := b) (k := r - b) (fun q hq => hdig (b + q) (by omega) (by omega)) c3
      have e6n : f_X1_numberHere (nI n) (nI b) (nI r) lets = nI (dv tx b (r - b)) := by
        unfold f_X1_numberHere
        rw [if_neg (by rw [nI_leI (by omega) (by omega)]; omega), sortAt_at h c1, c2, if_pos (show nI 2 = (2 : Int32) from rfl), sub_at bf (by omega), if_pos (show nI (r - b) ≤ (2 : Int32) from (nI_leI (b := 2) (by omega) (by omega)).mpr c3), fuel_of (by omega) bf]
        have := dig6 h f1 c3 hdig (r - b + 1) b (Nat.le_refl b) bf (by omega)
        rw [Nat.sub_self] at this
        exact this
      rw [if_neg (show ¬ (3 : Int32) ≤ nI (r - b) from fun z => absurd ((nI_leI (a := 3) (by omega) (by omega)).mp z) (by omega)), enum, in7, ktl, ktl, nI_toInt (by omega)] at e7
      rw [e6n] at e6
      simp only [Int32.lt_iff_toInt_lt, Int32.le_iff_toInt_le, nI_toInt (show dv tx b (r - b) < 2 ^ 31 by omega)] at e6
      by_cases c4 : lo.toInt ≤ (dv tx b (r - b) : Nat) ∧ ((dv tx b (r - b) : Nat) : Int) ≤ hi.toInt
      · rw [if_pos c4, if_neg i10] at e7
        rw [if_neg (by omega), if_pos c4.2] at e6
        exact Or.inr ⟨r, dv tx b (r - b), r1, hv.1, c4.1, c4.2, e6, e7⟩
      · rw [if_neg c4, if_pos rfl] at e7
        refine Or.inl ⟨nI r, nI r, nI (dv tx b (r - b)), ?_, e7⟩
        rw [e6]
        by_cases c5 : ((dv tx b (r - b) : Nat) : Int) < lo.toInt
        · rw [if_pos c5]
        · rw [if_neg c5, if_neg (by omega)]
    · have e6n : f_X1_numberHere (nI n) (nI b) (nI r) lets = -1 := by
        unfold f_X1_numberHere
        rw [if_neg (by rw [nI_leI (by omega) (by omega)]; omega), sortAt_at h c1, c2, if_pos (show nI 2 = (2 : Int32) from rfl), sub_at bf (by omega), if_neg (show ¬ nI (r - b) ≤ (2 : Int32) from fun z => c3 ((nI_leI (b := 2) (by omega) (by omega)).mp z))]
      rw [if_pos (show (3 : Int32) ≤ nI (r - b) from (nI_leI (a := 3) (by omega) (by omega)).mpr (by omega))] at e7
      rw [e6n, if_pos hneg] at e6
      exact Or.inl ⟨_, _, _, e6, e7⟩
  · have erb : r = b := r2.uniq (En.here cd2)
    subst erb
    rw [if_pos ((nI_leI (by omega) (by omega)).mpr (Nat.le_refl r))] at e7
    have e6n : f_X1_numberHere (nI n) (nI r) (nI f) lets = -1 := by
      unfold f_X1_numberHere
      by_cases c1 : r < n
      · have hs2 : so (tx r) ≠ 2 := fun z => cd2 ⟨c1, z⟩
        have hso : so (tx r) ≤ 2 := by unfold so; split; omega; split <;> omega
        rw [if_neg (by rw [nI_leI (by omega) (by omega)]; omega), sortAt_at h c1, if_neg (show ¬ nI (so (tx r)) = (2 : Int32) from lits _ 2 (by omega) (by omega) hs2)]
      · rw [if_pos ((nI_leI (by omega) (by omega)).mpr (by omega))]
    rw [e6n, if_pos hneg] at e6
    exact Or.inl ⟨_, _, _, e6, e7⟩
end NX
