/-! a clause is read -/
theorem wv0 {n b m : Nat} {tx : Nat → Nat} (hs : ∀ k, k < m → SoAt n tx 1 (b + k)) : (WV tx b m = 482854660462) ↔ Mt tx 0 b m := by
  have hs2 : ∀ k, k < m → 97 ≤ tx (b + k) ∧ tx (b + k) ≤ 122 := fun k hk => so1 (hs k hk).2
  unfold WV
  by_cases c : m ≤ 8
  · rw [if_pos c]
    have h1 : cd tx b m < 256 ^ m := cd_lt (fun k hk => by have := hs2 k hk; omega)
    have h2 : (256 : Nat) ^ m ≤ 256 ^ 8 := Nat.pow_le_pow_right (by omega) c
    have h3 : (256 : Nat) ^ 8 = 2 ^ 64 := by decide
    rw [← cw0 c hs2]
    exact lN_inj (b := 482854660462) (by omega) (by decide)
  · rw [if_neg c]
    constructor
    · intro z
      exact absurd z (by decide +kernel)
    · intro z
      have := z.1
      have := (kSl_le 0 (by omega)).1
      omega
theorem wv1 {n b m : Nat} {tx : Nat → Nat} (hs : ∀ k, k < m → SoAt n tx 1 (b + k)) : (WV tx b m = 108170520061284) ↔ Mt tx 1 b m := by
  have hs2 : ∀ k, k < m → 97 ≤ tx (b + k) ∧ tx (b + k) ≤ 122 := fun k hk => so1 (hs k hk).2
  unfold WV
  by_cases c : m ≤ 8
  · rw [if_pos c]
    have h1 : cd tx b m < 256 ^ m := cd_lt (fun k hk => by have := hs2 k hk; omega)
    have h2 : (256 : Nat) ^ m ≤ 256 ^ 8 := Nat.pow_le_pow_right (by omega) c
    have h3 : (256 : Nat) ^ 8 = 2 ^ 64 := by decide
    rw [← cw1 c hs2]
    exact lN_inj (b := 108170520061284) (by omega) (by decide)
  · rw [if_neg c]
    constructor
    · intro z
      exact absurd z (by decide +kernel)
    · intro z
      have := z.1
      have := (kSl_le 1 (by omega)).1
      omega
theorem wv2 {n b m : Nat} {tx : Nat → Nat} (hs : ∀ k, k < m → SoAt n tx 1 (b + k)) : (WV tx b m = 8243121572520813924) ↔ Mt tx 2 b m := by
  have hs2 : ∀ k, k < m → 97 ≤ tx (b + k) ∧ tx (b + k) ≤ 122 := fun k hk => so1 (hs k hk).2
  unfold WV
  by_cases c : m ≤ 8
  · rw [if_pos c]
    have h1 : cd tx b m < 256 ^ m := cd_lt (fun k hk => by have := hs2 k hk; omega)
    have h2 : (256 : Nat) ^ m ≤ 256 ^ 8 := Nat.pow_le_pow_right (by omega) c
    have h3 : (256 : Nat) ^ 8 = 2 ^ 64 := by decide
    rw [← cw2 c hs2]
    exact lN_inj (b := 8243121572520813924) (by omega) (by decide)
  · rw [if_neg c]
    constructor
    · intro z
      exact absurd z (by decide +kernel)
    · intro z
      have := z.1
      have := (kSl_le 2 (by omega)).1
      omega
theorem wv3 {n b m : Nat} {tx : Nat → Nat} (hs : ∀ k, k < m → SoAt n tx 1 (b + k)) : (WV tx b m = 121398918604132) ↔ Mt tx 3 b m := by
  have hs2 : ∀ k, k < m → 97 ≤ tx (b + k) ∧ tx (b + k) ≤ 122 := fun k hk => so1 (hs k hk).2
  unfold WV
  by_cases c : m ≤ 8
  · rw [if_pos c]
    have h1 : cd tx b m < 256 ^ m := cd_lt (fun k hk => by have := hs2 k hk; omega)
    have h2 : (256 : Nat) ^ m ≤ 256 ^ 8 := Nat.pow_le_pow_right (by omega) c
    have h3 : (256 : Nat) ^ 8 = 2 ^ 64 := by decide
    rw [← cw3 c hs2]
    exact lN_inj (b := 121398918604132) (by omega) (by decide)
  · rw [if_neg c]
    constructor
    · intro z
      exact absurd z (by decide +kernel)
    · intro z
      have := z.1
      have := (kSl_le 3 (by omega)).1
      omega
theorem wv4 {n b m : Nat} {tx : Nat → Nat} (hs : ∀ k, k < m → SoAt n tx 1 (b + k)) : (WV tx b m = 1953462126) ↔ Mt tx 4 b m := by
  have hs2 : ∀ k, k < m → 97 ≤ tx (b + k) ∧ tx (b + k) ≤ 122 := fun k hk => so1 (hs k hk).2
  unfold WV
  by_cases c : m ≤ 8
  · rw [if_pos c]
    have h1 : cd tx b m < 256 ^ m := cd_lt (fun k hk => by have := hs2 k hk; omega)
    have h2 : (256 : Nat) ^ m ≤ 256 ^ 8 := Nat.pow_le_pow_right (by omega) c
    have h3 : (256 : Nat) ^ 8 = 2 ^ 64 := by decide
    rw [← cw4 c hs2]
    exact lN_inj (b := 1953462126) (by omega) (by decide)
  · rw [if_neg c]
    constructor
    · intro z
      exact absurd z (by decide +kernel)
    · intro z
      have := z.1
      have := (kSl_le 4 (by omega)).1
      omega
theorem wv5 {n b m : Nat} {tx : Nat → Nat} (hs : ∀ k, k < m → SoAt n tx 1 (b + k)) : (WV tx b m = 125848672761202) ↔ Mt tx 5 b m := by
  have hs2 : ∀ k, k < m → 97 ≤ tx (b + k) ∧ tx (b + k) ≤ 122 := fun k hk => so1 (hs k hk).2
  unfold WV
  by_cases c : m ≤ 8
  · rw [if_pos c]
    have h1 : cd tx b m < 256 ^ m := cd_lt (fun k hk => by have := hs2 k hk; omega)
    have h2 : (256 : Nat) ^ m ≤ 256 ^ 8 := Nat.pow_le_pow_right (by omega) c
    have h3 : (256 : Nat) ^ 8 = 2 ^ 64 := by decide
    rw [← cw5 c hs2]
    exact lN_inj (b := 125848672761202) (by omega) (by decide)
  · rw [if_neg c]
    constructor
    · intro z
      exact absurd z (by decide +kernel)
    · intro z
      have := z.1
      have := (kSl_le 5 (by omega)).1
      omega
theorem wv6 {n b m : Nat} {tx : Nat → Nat} (hs : ∀ k, k < m → SoAt n tx 1 (b + k)) : (WV tx b m = 422607680100) ↔ Mt tx 6 b m := by
  have hs2 : ∀ k, k < m → 97 ≤ tx (b + k) ∧ tx (b + k) ≤ 122 := fun k hk => so1 (hs k hk).2
  unfold WV
  by_cases c : m ≤ 8
  · rw [if_pos c]
    have h1 : cd tx b m < 256 ^ m := cd_lt (fun k hk => by have := hs2 k hk; omega)
    have h2 : (256 : Nat) ^ m ≤ 256 ^ 8 := Nat.pow_le_pow_right (by omega) c
    have h3 : (256 : Nat) ^ 8 = 2 ^ 64 := by decide
    rw [← cw6 c hs2]
    exact lN_inj (b := 422607680100) (by omega) (by decide)
  · rw [if_neg c]
    constructor
    · intro z
      exact absurd z (by decide +kernel)
    · intro z
      have := z.1
      have := (kSl_le 6 (by omega)).1
      omega
abbrev TS : Type := Int32 × Int32 × Int32 × (Nat → Int32) × (Nat → Int32) × (Nat → Int32) × (Nat → Int32)
def RTH (B P R : Nat) (z : TS) (told : Nat → Int32) : Prop := RT B P R z.1 z.2.1 z.2.2.1 z.2.2.2.1 z.2.2.2.2.1 z.2.2.2.2.2.1 z.2.2.2.2.2.2 told
def hearAt (wrds nums : Nat → Int32) (k : Nat) (z : TS) : TS := f_X5_hear z.1 z.2.1 z.2.2.1 z.2.2.2.1 z.2.2.2.2.1 z.2.2.2.2.2.1 z.2.2.2.2.2.2 (f_X1_wordOf wrds (nI k)) (f_X1_numberOf nums (nI k) 0) (f_X1_numberOf nums (nI k) 1) (f_X1_numberOf nums (nI k) 2)
theorem wordOf_at {wrds : Nat → Int32} {k : Nat} (hk : k < 14) : f_X1_wordOf wrds (nI k) = wrds k := at_in (by omega) (by omega)
theorem numberOf_at {nums : Nat → Int32} {k q : Nat} (hk : k < 14) (hq : q < 3) : f_X1_numberOf nums (nI k) (nI q) = nums (3 * k + q) := by
  unfold f_X1_numberOf
  rw [show (nI k * 3) + nI q = nI (3 * k + q) from by
    rw [show nI k * (3 : Int32) = nI (k * 3) from nI_mul k 3, nI_add, Nat.mul_comm], at_in (by omega) (by omega)]
theorem put42 {nums : Nat → Int32} {k q : Nat} {x : Int32} (hk : k < 14) (hq : q < 3) : f_X0_put 42 nums ((nI k * 3) + nI q) x = upd nums (3 * k + q) x := by
  rw [show (nI k * 3) + nI q = nI (3 * k + q) from by
    rw [show nI k * (3 : Int32) = nI (k * 3) from nI_mul k 3, nI_add, Nat.mul_comm], put_in (by omega) (by omega)]
theorem hearAt_eq {wrds nums : Nat → Int32} {k : Nat} (hk : k < 14) (z : TS) : hearAt wrds nums k z = f_X5_hear z.1 z.2.1 z.2.2.1 z.2.2.2.1 z.2.2.2.2.1 z.2.2.2.2.2.1 z.2.2.2.2.2.2 (wrds k) (nums (3 * k)) (nums (3 * k + 1)) (nums (3 * k + 2)) := by
  unfold hearAt
  rw [wordOf_at hk, show f_X1_numberOf nums (nI k) 0 = nums (3 * k) from numberOf_at (q := 0) hk (by omega), show f_X1_numberOf nums (nI k) 1 = nums (3 * k + 1) from numberOf_at (q := 1) hk (by omega), show f_X1_numberOf nums (nI k) 2 = nums (3 * k + 2) from numberOf_at (q := 2) hk (by omega)]
theorem nI_nem1 {q : Nat} (h : q < 2000) : ¬ nI q = -1 := fun z => by
  have h1 := congrArg Int32.toInt z
  rw [nI_toInt (by omega)] at h1
  have h2 : ((q : Nat) : Int) = -1 := h1
  omega
/-- what one clause makes of both readers -/
def Cl (n k : Nat) (wrds nums : Nat → Int32) (z : TS) (C : Int32 × Int32 × Int32 × Int32 × Int32 × (Nat → Int32) × (Nat → Int32)) (M : Int32 × (Nat → Int32) × Int32 × Int32 × Int32 × Int64) : Prop :=
  (C.1 = 0 ∧ M.1 = 0 ∧ C.2.2.2.1 = M.2.2.2.1 ∧ ¬ C.2.2.2.1 = -1) ∨
  (C.1 = 1 ∧ M.1 = 1 ∧ ∃ B2 P2 R2 e2 : Nat, C.2.1 = nI P2 ∧ C.2.2.1 = nI R2 ∧ C.2.2.2.2.1 = nI e2 ∧ M.2.2.1 = nI e2 ∧ e2 ≤ n ∧ (∀ j, j < k → C.2.2.2.2.2.1 j = wrds j) ∧ (∀ j, j < 3 * k → C.2.2.2.2.2.2 j = nums j) ∧ RTH B2 P2 R2 (hearAt C.2.2.2.2.2.1 C.2.2.2.2.2.2 k z) M.2.1)
theorem canStand_at {P R i : Nat} (hP : P ≤ 6) (hR : R ≤ 8) (hi : i < 7) : f_X1_canStand (nI P) (nI R) (nI i) = (if i = 4 ∨ i = 6 then 1 else (if i = 5 then (if R < 8 then 1 else 0) else (if P < 6 then 1 else 0))) := by
  have key : ∀ (P : Fin 7) (R : Fin 9) (i : Fin 7), f_X1_canStand (nI P.1) (nI R.1) (nI i.1) = (if i.1 = 4 ∨ i.1 = 6 then 1 else (if i.1 = 5 then (if R.1 < 8 then 1 else 0) else (if P.1 < 6 then 1 else 0))) := by decide +kernel
  exact key ⟨P, by omega⟩ ⟨R, by omega⟩ ⟨i, hi⟩
theorem countIn_at (P R i : Nat) (hi : i < 7) : f_X1_countIn (nI P) (nI R) (nI i) = (if i = 4 then (nI 0, nI 0) else (if i = 5 then (nI P, nI (R + 1)) else (if i = 6 then (nI P, nI R) else (nI (P + 1), nI R)))) := by
  unfold f_X1_countIn v_X1_countIn_1_0 v_X1_countIn_1_1
  rcases (show i = 0 ∨ i = 1 ∨ i = 2 ∨ i = 3 ∨ i = 4 ∨ i = 5 ∨ i = 6 by omega) with rfl | rfl | rfl | rfl | rfl | rfl | rfl
  all_goals
    first
      | (rw [if_pos (by decide), if_pos (by decide), if_pos (by decide)]; rfl)
      | (rw [if_neg (by decide), if_pos (by decide), if_neg (by decide), if_pos (by decide), if_neg (by decide), if_pos (by decide), nI_1])
      | (rw [if_neg (by decide), if_neg (by decide), if_pos (by decide), if_neg (by decide), if_neg (by decide), if_pos (by decide), if_neg (by decide), if_neg (by decide), if_pos (by decide)])
      | (rw [if_neg (by decide), if_neg (by decide), if_neg (by decide), if_neg (by decide), if_neg (by decide), if_neg (by decide), if_neg (by decide), if_neg (by decide), if_neg (by decide), nI_1])
section CL
variable {n : Nat} {tx : Nat → Nat} {lets text : Nat → Int32} {B P R : Nat} {tb tp tr : Int32} {knd sec brd rms rd wrds nums : Nat → Int32}
/-- the class's clause with one number -/
theorem read1 {k b f i : Nat} (hi : i < 7) (h6 : i ≠ 6) (hk : k < 14) (ewh : f_X1_wordHere (nI b) (nI f) lets = nI i) (hcs : f_X1_canStand (nI P) (nI R) (nI i) = 1) {lo hi' : Int32} (hlo : lo = if i = 4 then 1 else 0) (hhi : hi' = if i = 4 then 4 else 63) {fl q X : Int32} {nums2 : Nat → Int32} (hrn : f_X1_readNumber (nI n) (nI k) (nI f) lets nums 0 lo hi' = (fl, q, X, nums2)) :
    f_X1_readClause (nI n) (nI k) (nI P) (nI R) (nI b) (nI f) lets wrds nums = (fl, (f_X1_countIn (nI P) (nI R) (nI i)).1, (f_X1_countIn (nI P) (nI R) (nI i)).2, q, X, upd wrds k (nI i), nums2) := by
  unfold f_X1_readClause
  rw [ewh, hcs, if_neg i10, put_in (by omega) (by omega)]
  by_cases c : i = 4
  · subst c
    rw [if_pos rfl] at hlo hhi
    subst hlo; subst hhi
    rw [if_pos (show nI 4 = (4 : Int32) from rfl), hrn]
  · rw [if_neg c] at hlo hhi
    subst hlo; subst hhi
    rw [if_neg (show ¬ nI i = (4 : Int32) from lits i 4 (by omega) (by omega) c), if_neg (show ¬ nI i = (6 : Int32) from lits i 6 (by omega) (by omega) h6), hrn]
theorem clause_none {k b f : Nat} (ewh : f_X1_wordHere (nI b) (nI f) lets = -1) : f_X1_readClause (nI n) (nI k) (nI P) (nI R) (nI b) (nI f) lets wrds nums = (0, nI P, nI R, nI b, nI f, wrds, nums) := by
  unfold f_X1_readClause
  rw [ewh, if_pos (show f_X1_canStand (nI P) (nI R) (-1) = 0 from by unfold f_X1_canStand; rfl)]
theorem clause_bar {k b f i : Nat} (ewh : f_X1_wordHere (nI b) (nI f) lets = nI i) (hcs : f_X1_canStand (nI P) (nI R) (nI i) = 0) : f_X1_readClause (nI n) (nI k) (nI P) (nI R) (nI b) (nI f) lets wrds nums = (0, nI P, nI R, nI b, nI f, wrds, nums) := by
  unfold f_X1_readClause
  rw [ewh, if_pos hcs]
/-- the reference's clause, by its word -/
theorem tc_town {e f b : Nat} {number : Int32} (ew : f_X7_takesWord text (nI n) (nI e) = (nI f, nI b, 1953462126)) : f_X7_takesClause rd text (nI n) (nI e) number = ((f_X7_takesTown rd text (nI n) (nI f)).1, (f_X7_takesTown rd text (nI n) (nI f)).2.1, (f_X7_takesTown rd text (nI n) (nI f)).2.2.1, (f_X7_takesTown rd text (nI n) (nI f)).2.2.2.1, (f_X7_takesTown rd text (nI n) (nI f)).2.2.2.2, 1953462126) := by
  unfold f_X7_takesClause
  rw [ew]
  dsimp only
  rw [if_pos (by decide +kernel)]
theorem tc_one0 {e f b : Nat} {number : Int32} (ew : f_X7_takesWord text (nI n) (nI e) = (nI f, nI b, 482854660462)) : f_X7_takesClause rd text (nI n) (nI e) number = ((f_X7_takesOne rd text (nI n) (nI f) (nI b) number 0).1, (f_X7_takesOne rd text (nI n) (nI f) (nI b) number 0).2.1, (f_X7_takesOne rd text (nI n) (nI f) (nI b) number 0).2.2.1, (f_X7_takesOne rd text (nI n) (nI f) (nI b) number 0).2.2.2.1, (f_X7_takesOne rd text (nI n) (nI f) (nI b) number 0).2.2.2.2, 482854660462) := by
  unfold f_X7_takesClause
  rw [ew]
  dsimp only
  rw [if_neg (by decide +kernel), if_pos (by decide +kernel)]
theorem tc_one1 {e f b : Nat} {number : Int32} (ew : f_X7_takesWord text (nI n) (nI e) = (nI f, nI b, 108170520061284)) : f_X7_takesClause rd text (nI n) (nI e) number = ((f_X7_takesOne rd text (nI n) (nI f) (nI b) number 1).1, (f_X7_takesOne rd text (nI n) (nI f) (nI b) number 1).2.1, (f_X7_takesOne rd text (nI n) (nI f) (nI b) number 1).2.2.1, (f_X7_takesOne rd text (nI n) (nI f) (nI b) number 1).2.2.2.1, (f_X7_takesOne rd text (nI n) (nI f) (nI b) number 1).2.2.2.2, 108170520061284) := by
  unfold f_X7_takesClause
  rw [ew]
  dsimp only
  rw [if_neg (by decide +kernel), if_neg (by decide +kernel), if_pos (by decide +kernel)]
theorem tc_one2 {e f b : Nat} {number : Int32} (ew : f_X7_takesWord text (nI n) (nI e) = (nI f, nI b, 8243121572520813924)) : f_X7_takesClause rd text (nI n) (nI e) number = ((f_X7_takesOne rd text (nI n) (nI f) (nI b) number 2).1, (f_X7_takesOne rd text (nI n) (nI f) (nI b) number 2).2.1, (f_X7_takesOne rd text (nI n) (nI f) (nI b) number 2).2.2.1, (f_X7_takesOne rd text (nI n) (nI f) (nI b) number 2).2.2.2.1, (f_X7_takesOne rd text (nI n) (nI f) (nI b) number 2).2.2.2.2, 8243121572520813924) := by
  unfold f_X7_takesClause
  rw [ew]
  dsimp only
  rw [if_neg (by decide +kernel), if_neg (by decide +kernel), if_neg (by decide +kernel), if_pos (by decide +kernel)]
theorem tc_one3 {e f b : Nat} {number : Int32} (ew : f_X7_takesWord text (nI n) (nI e) = (nI f, nI b, 121398918604132)) : f_X7_takesClause rd text (nI n) (nI e) number = ((f_X7_takesOne rd text (nI n) (nI f) (nI b) number 3).1, (f_X7_takesOne rd text (nI n) (nI f) (nI b) number 3).2.1, (f_X7_takesOne rd text (nI n) (nI f) (nI b) number 3).2.2.1, (f_X7_takesOne rd text (nI n) (nI f) (nI b) number 3).2.2.2.1, (f_X7_takesOne rd text (nI n) (nI f) (nI b) number 3).2.2.2.2, 121398918604132) := by
  unfold f_X7_takesClause
  rw [ew]
  dsimp only
  rw [if_neg (by decide +kernel), if_neg (by decide +kernel), if_neg (by decide +kernel), if_neg (by decide +kernel), if_pos (by decide +kernel)]
theorem tc_rumour {e f b : Nat} {number : Int32} (ew : f_X7_takesWord text (nI n) (nI e) = (nI f, nI b, 125848672761202)) : f_X7_takesClause rd text (nI n) (nI e) number = ((f_X7_takesRumour rd text (nI n) (nI f) (nI b) number).1, (f_X7_takesRumour rd text (nI n) (nI f) (nI b) number).2.1, (f_X7_takesRumour rd text (nI n) (nI f) (nI b) number).2.2.1, (f_X7_takesRumour rd text (nI n) (nI f) (nI b) number).2.2.2.1, (f_X7_takesRumour rd text (nI n) (nI f) (nI b) number).2.2.2.2, 125848672761202) := by
  unfold f_X7_takesClause
  rw [ew]
  dsimp only
  rw [if_neg (by decide +kernel), if_neg (by decide +kernel), if_neg (by decide +kernel), if_neg (by decide +kernel), if_neg (by decide +kernel), if_pos (by decide +kernel)]
theorem tc_beard {e f b : Nat} {number : Int32} (ew : f_X7_takesWord text (nI n) (nI e) = (nI f, nI b, 422607680100)) {fl : Int32} {rd2 : Nat → Int32} {A q N : Int32} (hfl : fl = 0 ∨ fl = 1) (eb : f_X7_takesBeard rd text (nI n) (nI f) = (fl, rd2, A, q, N)) : f_X7_takesClause rd text (nI n) (nI e) number = (fl, rd2, A, q, N, 422607680100) := by
  unfold f_X7_takesClause v_X7_takesClause_112_0 v_X7_takesClause_112_1 v_X7_takesClause_112_2 v_X7_takesClause_112_3 v_X7_takesClause_112_4
  have h9 : lg_cmp (422607680100 : Int64) 422607680100 = 0 := by decide +kernel
  rw [ew]
  dsimp only
  rw [if_neg (by decide +kernel), if_neg (by decide +kernel), if_neg (by decide +kernel), if_neg (by decide +kernel), if_neg (by decide +kernel), if_neg (by decide +kernel), if_pos h9, if_pos h9, if_pos h9, if_pos h9, if_pos h9, eb]
  dsimp only
  rcases hfl with rfl | rfl
  · rw [if_pos rfl, if_pos rfl, if_pos rfl, if_pos rfl, if_pos rfl]
  · rw [if_neg i10, if_neg i10, if_neg i10, if_neg i10, if_neg i10]
theorem tc_none {e b : Nat} {number a : Int32} {wd : Int64} (ew : f_X7_takesWord text (nI n) (nI e) = (a, nI b, wd)) (hw : ¬ wd = 482854660462 ∧ ¬ wd = 108170520061284 ∧ ¬ wd = 8243121572520813924 ∧ ¬ wd = 121398918604132 ∧ ¬ wd = 1953462126 ∧ ¬ wd = 125848672761202 ∧ ¬ wd = 422607680100) : f_X7_takesClause rd text (nI n) (nI e) number = (0, rd, a, nI b, number, wd) := by
  obtain ⟨h0, h1, h2, h3, h4, h5, h6⟩ := hw
  unfold f_X7_takesClause v_X7_takesClause_112_0 v_X7_takesClause_112_1 v_X7_takesClause_112_2 v_X7_takesClause_112_3 v_X7_takesClause_112_4
  rw [ew]
  dsimp only
  simp only [lg_cmp_eq]
  rw [if_neg h4, if_neg h0, if_neg h1, if_neg h2, if_neg h3, if_neg h5, if_neg h6, if_neg h6, if_neg h6, if_neg h6, if_neg h6]
end CL
