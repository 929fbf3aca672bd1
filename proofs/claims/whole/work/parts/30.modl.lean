/-! bounds for the reference's rows -/
def kat (a t : Int32) : Prop := ∃ x y : Nat, x ≤ y ∧ y ≤ 160 ∧ a = nI x ∧ t = nI y
theorem kat.b {a t : Int32} (h : kat a t) : kb a 0 161 := by
  obtain ⟨x, y, h1, h2, rfl, -⟩ := h
  exact ⟨x, Nat.zero_le _, by omega, rfl⟩
theorem kat.t {a t : Int32} (h : kat a t) : kb t 0 161 := by
  obtain ⟨x, y, h1, h2, -, rfl⟩ := h
  exact ⟨y, Nat.zero_le _, by omega, rfl⟩
theorem kat.zero {t : Int32} (h : kb t 0 161) : kat 0 t := by
  obtain ⟨y, -, h2, rfl⟩ := h
  exact ⟨0, y, Nat.zero_le _, by omega, rfl, rfl⟩
theorem kat.succ {a t : Int32} (h : kat a t) (c : ¬ t ≤ a) : kat (a + 1) t := by
  obtain ⟨x, y, h1, h2, rfl, rfl⟩ := h
  have h3 : x < y := by
    rcases Nat.lt_or_ge x y with q | q
    · exact q
    · exact absurd (nI_le q (by omega)) c
  exact ⟨x + 1, y, h3, h2, nI_1 x, rfl⟩
theorem kat.mu {a t : Int32} {k : Nat} (h : kat a t) (hm : (t.toInt - a.toInt).toNat < k + 1) (c : ¬ t ≤ a) : (t.toInt - (a + 1).toInt).toNat < k := kmu hm c
theorem klt_in {k t : Int32} (hk : kb k 0 161) (ht : kb t 0 161) (c : ¬ t ≤ k) : vp_in k 160 := by
  obtain ⟨a, -, h2, rfl⟩ := hk
  obtain ⟨b, -, h4, rfl⟩ := ht
  have h5 : a < b := by
    rcases Nat.lt_or_ge a b with q | q
    · exact q
    · exact absurd (nI_le q (by omega)) c
  exact vp_in_nI (by omega) (by decide)
theorem kloop {B : Int32} {lo hi i : Nat} (h : kb B lo hi) (hs : hi < 2147483648) (hi' : i < B.toNatClampNeg) : kb (nI i) 0 (hi - 1) := by
  obtain ⟨a, h1, h2, rfl⟩ := h
  rw [nI_clamp (by omega)] at hi'
  exact ⟨i, Nat.zero_le _, by omega, rfl⟩
theorem kne {x : Int32} {lo n : Nat} (h : kb x lo (n + 1)) (hs : n < 2147483648) (c : ¬ x = nI n) : kb x lo n := by
  obtain ⟨a, h1, h2, rfl⟩ := h
  refine ⟨a, h1, ?_, rfl⟩
  rcases Nat.lt_or_ge a n with q | q
  · exact q
  · exact absurd (by rw [show a = n by omega]) c
theorem kb.sub1 {x : Int32} {lo hi : Nat} (h : kb x (lo + 1) (hi + 1)) : kb (x - 1) lo hi := by
  obtain ⟨a, h1, h2, rfl⟩ := h
  refine ⟨a - 1, by omega, by omega, ?_⟩
  have e : a = (a - 1) + 1 := by omega
  rw [e, nI_pred]
  simp
theorem ktl (x : Int32) : x.toInt64.toInt = x.toInt := by simp
/-- what in() answers, for ints -/
theorem kin_spec {x lo hi : Int64} : (if lg_cmp x lo < 0 then (0 : Int32) else (if 0 < lg_cmp x hi then 0 else 1)) = if lo ≤ x ∧ x ≤ hi then 1 else 0 := by
  have a1 : (lg_cmp x lo < 0) ↔ ¬ lo ≤ x := by rw [← lg_cmp_ge, Int32.not_le]
  have a2 : (0 < lg_cmp x hi) ↔ ¬ x ≤ hi := by
    unfold lg_cmp
    simp only [gt_iff_lt, Int64.lt_iff_toInt_lt, Int64.le_iff_toInt_le, ← Int64.toInt_inj]
    repeat' split
    all_goals (first | (simp; omega) | simp_all)
  by_cases h1 : lo ≤ x <;> by_cases h2 : x ≤ hi <;> simp [a1, a2, h1, h2]
theorem ksrem {x y : Int32} (hy : ¬ y = 0) : (x - x / y * y).toInt = x.toInt.tmod y.toInt := by
  have hy' : y.toInt ≠ 0 := fun e => hy (Int32.toInt_inj.mp e)
  have h1 := Int32.toInt_lt x
  have h2 := Int32.le_toInt x
  have e1 : (x - x / y * y).toInt = (x.toInt - x.toInt.tdiv y.toInt * y.toInt).bmod (2 ^ 32) := by
    rw [Int32.toInt_sub, Int32.toInt_mul, Int32.toInt_div]
    simp
  rw [e1]
  have e2 : x.toInt - x.toInt.tdiv y.toInt * y.toInt = x.toInt.tmod y.toInt := by
    rw [Int.tmod_def, Int.mul_comm]
  rw [e2]
  have e3 : (x.toInt.tmod y.toInt).natAbs < y.toInt.natAbs := by
    rw [Int.natAbs_tmod]
    exact Nat.mod_lt _ (by omega)
  have h3 := Int32.toInt_lt y
  have h4 := Int32.le_toInt y
  refine Int.bmod_eq_of_le ?_ ?_ <;> omega
theorem ksrem_lt {x y : Int32} (hy : ¬ y = 0) : (x - x / y * y).toInt.natAbs < y.toInt.natAbs := by
  have hy' : y.toInt ≠ 0 := fun e => hy (Int32.toInt_inj.mp e)
  rw [ksrem hy, Int.natAbs_tmod]
  exact Nat.mod_lt _ (by omega)
theorem kmod {x y : Int32} {lo hi m : Nat} (hx : kb x lo hi) (hs : hi < 2147483648) (hy : kb y 1 (m + 1)) (hm : m < 2147483647) : kb (x - x / y * y) 0 m := by
  obtain ⟨a, a1, a2, rfl⟩ := hx
  obtain ⟨b, b1, b2, rfl⟩ := hy
  have h := ksrem (x := nI a) (y := nI b) (nI_ne0 (by omega) (by omega))
  rw [nI_toInt (by omega), nI_toInt (by omega)] at h
  have hlt : a % b < b := Nat.mod_lt _ (by omega)
  refine ⟨a % b, Nat.zero_le _, by omega, ?_⟩
  refine Int32.toInt_inj.mp ?_
  rw [h, nI_toInt (by omega)]
  rfl
theorem kpos {x : Int32} {hi : Nat} (h : kb x 0 hi) (c : ¬ x = 0) : kb x 1 hi := by
  obtain ⟨a, a1, a2, rfl⟩ := h
  refine ⟨a, ?_, a2, rfl⟩
  rcases Nat.eq_zero_or_pos a with q | q
  · exact absurd (by rw [q, nI_0]) c
  · exact q
theorem kundo {x : Int32} {hi : Nat} (h : kb x 0 (hi + 1)) (c : ¬ x = 0) : kb (x - 1) 0 hi := kb.sub1 (kpos h c)
/-- the same as the reference's in() -/
def kin7 (v low high : Int64) : Int32 := if lg_cmp v low < 0 then 0 else (if 0 < lg_cmp v high then 0 else 1)
theorem kin7_iff {v low high : Int64} (c : ¬ kin7 v low high = 0) : low ≤ v ∧ v ≤ high := by
  unfold kin7 at c
  rw [kin_spec] at c
  split at c
  · assumption
  · exact absurd rfl c
theorem kinlit {x : Int32} {h : Int64} {n : Nat} (hh : h.toInt = n) (hn : n < 2147483647) (c : ¬ kin7 x.toInt64 0 h = 0) : kb x 0 (n + 1) := by
  obtain ⟨c1, c2⟩ := kin7_iff c
  rw [Int64.le_iff_toInt_le] at c1 c2
  have e := ktl x
  rw [e] at c1 c2
  have z : (0 : Int64).toInt = 0 := rfl
  rw [z] at c1
  rw [hh] at c2
  refine ⟨x.toInt.toNat, Nat.zero_le _, by omega, ?_⟩
  refine Int32.toInt_inj.mp ?_
  rw [nI_toInt (by omega)]
  omega
theorem kperson {x B : Int32} {lo hi : Nat} (hB : kb B lo (hi + 1)) (hs : hi < 2147483647) (c : ¬ kin7 x.toInt64 0 (B - 1).toInt64 = 0) : kb x 0 hi := by
  obtain ⟨b, b1, b2, rfl⟩ := hB
  obtain ⟨c1, c2⟩ := kin7_iff c
  rw [Int64.le_iff_toInt_le] at c1 c2
  have e := ktl x
  rw [e] at c1 c2
  have z : (0 : Int64).toInt = 0 := rfl
  rw [z] at c1
  rw [ktl] at c2
  have e2 : (nI b - 1).toInt = (b : Int) - 1 := by
    rw [Int32.toInt_sub, nI_toInt (by omega), show (1 : Int32).toInt = 1 from rfl]
    exact Int.bmod_eq_of_le (by omega) (by omega)
  rw [e2] at c2
  refine ⟨x.toInt.toNat, Nat.zero_le _, by omega, ?_⟩
  refine Int32.toInt_inj.mp ?_
  rw [nI_toInt (by omega)]
  omega
theorem kb.mk {i n : Nat} (h : i < n) : kb (nI i) 0 n := ⟨i, Nat.zero_le _, h, rfl⟩
def krd (read : Nat → Int32) : Prop := kb (read 1) 0 7 ∧ kb (read 2) 0 9
