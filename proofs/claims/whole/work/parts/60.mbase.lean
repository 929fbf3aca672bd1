/-! loops -/
theorem lp_ind {α : Type} {f : Nat → α → α} {a : α} (I : Nat → α → Prop) (n : Nat) (h0 : I 0 a) (hs : ∀ i z, i < n → I i z → I (i + 1) (f i z)) : I n (lp f a n) := by
  have key : ∀ k, k ≤ n → I k (lp f a k) := by
    intro k
    induction k with
    | zero => exact fun _ => h0
    | succ k ih => exact fun h => hs k _ (by omega) (ih (by omega))
  exact key n (Nat.le_refl n)
theorem lp_ind2 {α β : Type} {f : Nat → α → α} {g : Nat → β → β} {a : α} {b : β} (I : Nat → α → β → Prop) (n : Nat) (h0 : I 0 a b) (hs : ∀ i z y, i < n → I i z y → I (i + 1) (f i z) (g i y)) : I n (lp f a n) (lp g b n) := by
  have key : ∀ k, k ≤ n → I k (lp f a k) (lp g b k) := by
    intro k
    induction k with
    | zero => exact fun _ => h0
    | succ k ih => exact fun h => hs k _ _ (by omega) (ih (by omega))
  exact key n (Nat.le_refl n)
theorem lp_congr {α : Type} {f g : Nat → α → α} {a : α} (n : Nat) (h : ∀ i z, i < n → f i z = g i z) : lp f a n = lp g a n :=
  lp_ind2 (fun _ x y => x = y) n rfl (fun i z y hi e => by rw [e]; exact h i y hi)
/-! numbers -/
theorem nI_mul (a b : Nat) : nI a * nI b = nI (a * b) := (Int32.ofNat_mul a b).symm
theorem adB (p k : Nat) : (1 + nI p * 6) + nI k = nI (1 + (6 * p + k)) := by
  show (nI 1 + nI p * nI 6) + nI k = _
  rw [nI_mul, nI_add, nI_add]
  congr 1; omega
theorem adK (b p : Nat) : (37 + nI b * 6) + nI p = nI (37 + (6 * b + p)) := by
  show (nI 37 + nI b * nI 6) + nI p = _
  rw [nI_mul, nI_add, nI_add]
  congr 1; omega
theorem adP (b p : Nat) : (61 + nI b * 6) + nI p = nI (61 + (6 * b + p)) := by
  show (nI 61 + nI b * nI 6) + nI p = _
  rw [nI_mul, nI_add, nI_add]
  congr 1; omega
theorem adT (p k : Nat) : nI p * 6 + nI k = nI (6 * p + k) := by
  show nI p * nI 6 + nI k = _
  rw [nI_mul, nI_add]
  congr 1; omega
theorem am6 (b p : Nat) : 6 * nI b + nI p = nI (6 * b + p) := by
  show nI 6 * nI b + nI p = _
  rw [nI_mul, nI_add]
theorem amK (r b p : Nat) : ((nI r + 37) + (6 * nI b + nI p)).toNatClampNeg = ((nI (r + (37 + (6 * b + p)))).toNatClampNeg) := by
  show ((nI r + nI 37) + (6 * nI b + nI p)).toNatClampNeg = _
  rw [am6, nI_add, nI_add]
  congr 2; omega
theorem amP (r b p : Nat) : ((nI r + 61) + (6 * nI b + nI p)).toNatClampNeg = ((nI (r + (61 + (6 * b + p)))).toNatClampNeg) := by
  show ((nI r + nI 61) + (6 * nI b + nI p)).toNatClampNeg = _
  rw [am6, nI_add, nI_add]
  congr 2; omega
theorem amB (r p k : Nat) : (((nI r + 1) + 6 * nI p) + nI k).toNatClampNeg = ((nI (r + (1 + (6 * p + k)))).toNatClampNeg) := by
  show (((nI r + nI 1) + nI 6 * nI p) + nI k).toNatClampNeg = _
  rw [nI_mul, nI_add, nI_add, nI_add]
  congr 2; omega
theorem amK0 (b p : Nat) : (37 + (6 * nI b + nI p)).toNatClampNeg = (nI (37 + (6 * b + p))).toNatClampNeg := by
  show (nI 37 + (6 * nI b + nI p)).toNatClampNeg = _
  rw [am6, nI_add]
theorem amP0 (b p : Nat) : (61 + (6 * nI b + nI p)).toNatClampNeg = (nI (61 + (6 * b + p))).toNatClampNeg := by
  show (nI 61 + (6 * nI b + nI p)).toNatClampNeg = _
  rw [am6, nI_add]
theorem amK1 (b p : Nat) : ((37 + 6 * nI b) + nI p).toNatClampNeg = (nI (37 + (6 * b + p))).toNatClampNeg := by
  show ((nI 37 + nI 6 * nI b) + nI p).toNatClampNeg = _
  rw [nI_mul, nI_add, nI_add]
  congr 2; omega
theorem amP1 (b p : Nat) : ((61 + 6 * nI b) + nI p).toNatClampNeg = (nI (61 + (6 * b + p))).toNatClampNeg := by
  show ((nI 61 + nI 6 * nI b) + nI p).toNatClampNeg = _
  rw [nI_mul, nI_add, nI_add]
  congr 2; omega
theorem amB0 (p k : Nat) : ((1 + 6 * nI p) + nI k).toNatClampNeg = (nI (1 + (6 * p + k))).toNatClampNeg := by
  show ((nI 1 + nI 6 * nI p) + nI k).toNatClampNeg = _
  rw [nI_mul, nI_add, nI_add]
  congr 2; omega
theorem cl {a : Nat} (h : a < 2000) : (nI a).toNatClampNeg = a := nI_clamp (by omega)
theorem am3 (p : Nat) (h : p < 100) : (3 + nI p).toNatClampNeg = 3 + p := by
  show (nI 3 + nI p).toNatClampNeg = _
  rw [nI_add, cl (by omega)]
theorem am9 (p : Nat) (h : p < 100) : (9 + nI p).toNatClampNeg = 9 + p := by
  show (nI 9 + nI p).toNatClampNeg = _
  rw [nI_add, cl (by omega)]
theorem am51 (p : Nat) (h : p < 100) : (51 + nI p).toNatClampNeg = 51 + p := by
  show (nI 51 + nI p).toNatClampNeg = _
  rw [nI_add, cl (by omega)]
/-! rows -/
theorem at_in {n : Nat} {f : Nat → Int32} {j : Nat} (h : j < n) (hn : n < 2000) : f_X0_at n f (nI j) = f j := by
  unfold f_X0_at v_X0_at_1_0
  rw [if_neg (nI_pos (by omega)), if_neg (by rw [nI_leI (by omega) (by omega)]; omega), cl (by omega)]
theorem put_in {n : Nat} {f : Nat → Int32} {j : Nat} {x : Int32} (h : j < n) (hn : n < 2000) : f_X0_put n f (nI j) x = upd f j x := by
  unfold f_X0_put v_X0_put_1_0
  rw [if_neg (nI_pos (by omega)), if_neg (by rw [nI_leI (by omega) (by omega)]; omega), cl (by omega)]
theorem us {f : Nat → Int32} {k : Nat} {x : Int32} : upd f k x k = x := if_pos rfl
theorem un {f : Nat → Int32} {k j : Nat} {x : Int32} (h : j ≠ k) : upd f k x j = f j := if_neg h
theorem zero_in (n : Nat) (f : Nat → Int32) (hn : n < 2000) (j : Nat) : f_X0_zero n f j = if j < n then 0 else f j := by
  unfold f_X0_zero x_X0_zero_2
  have h := lp_ind (f := fun iz z => nx_X0_zero_2 iz z) (a := f) (fun i z => ∀ j, z j = if j < i then 0 else f j) n (fun j => by simp) (fun i z hi ih j => by
    show upd z ((nI i).toNatClampNeg) 0 j = _
    rw [cl (by omega)]
    by_cases e : j = i
    · subst e; rw [us, if_pos (by omega)]
    · rw [un e, ih j]
      by_cases h : j < i
      · rw [if_pos h, if_pos (by omega)]
      · rw [if_neg h, if_neg (by omega)])
  exact h j
theorem take_in {n n1 : Nat} {f g : Nat → Int32} {s p l : Nat} (h1 : s + l ≤ n1) (h2 : p + l ≤ n) (hn : n < 2000) (hn1 : n1 < 2000) : f_X0_take n n1 f g (nI s) (nI p) (nI l) = va_cpy g f s p l := by
  unfold f_X0_take
  have e1 : nI n1 - nI l = nI (n1 - l) := by
    refine Int32.toInt_inj.mp ?_
    rw [Int32.toInt_sub, nI_toInt (by omega), nI_toInt (by omega), nI_toInt (by omega)]
    rw [Int.bmod_eq_of_le (by omega) (by omega)]; omega
  have e2 : nI n - nI l = nI (n - l) := by
    refine Int32.toInt_inj.mp ?_
    rw [Int32.toInt_sub, nI_toInt (by omega), nI_toInt (by omega), nI_toInt (by omega)]
    rw [Int.bmod_eq_of_le (by omega) (by omega)]; omega
  rw [e1, e2, if_neg (nI_pos (by omega)), if_neg (nI_pos (by omega)), if_pos (nI_pos' (by omega)), if_neg (by rw [nI_ltI (by omega) (by omega)]; omega), if_pos (by rw [nI_leI (by omega) (by omega)]; omega), cl (by omega), cl (by omega), cl (by omega)]
/-! tests of bounds -/
theorem in7 (x : Int32) (lo hi : Int64) : f_X7_in x.toInt64 lo hi = if lo.toInt ≤ x.toInt ∧ x.toInt ≤ hi.toInt then 1 else 0 := by
  unfold f_X7_in v_X7_in_3_0
  rw [kin_spec]
  simp only [Int64.le_iff_toInt_le, ktl]
theorem in6 {n : Nat} (hn : n < 2000) (x : Int32) : (if x < 0 then (0 : Int32) else (if nI n ≤ x then 0 else 1)) = if 0 ≤ x.toInt ∧ x.toInt < n then 1 else 0 := by
  have z : (0 : Int32).toInt = 0 := rfl
  simp only [Int32.lt_iff_toInt_lt, Int32.le_iff_toInt_le, nI_toInt (show n < 2 ^ 31 by omega), z]
  by_cases h1 : x.toInt < 0
  · rw [if_pos h1, if_neg (by omega)]
  · by_cases h2 : (n : Int) ≤ x.toInt
    · rw [if_neg h1, if_pos h2, if_neg (by omega)]
    · rw [if_neg h1, if_neg h2, if_pos (by omega)]
theorem of_in {x : Int32} {n : Nat} (hn : n < 2000) (h : 0 ≤ x.toInt ∧ x.toInt < n) : ∃ a, a < n ∧ x = nI a := by
  refine ⟨x.toInt.toNat, by omega, ?_⟩
  refine Int32.toInt_inj.mp ?_
  rw [nI_toInt (by omega)]
  omega
theorem pred_toInt {P : Nat} (h : P < 2000) : (nI P - 1).toInt64.toInt = (P : Int) - 1 := by
  rw [ktl, Int32.toInt_sub, nI_toInt (by omega), show (1 : Int32).toInt = 1 from rfl]
  exact Int.bmod_eq_of_le (by omega) (by omega)
/-- a number that both sides test against the same count -/
theorem cnt_cases {P : Nat} (hP : P < 2000) {t : Int32} (ht : t = nI P) (x : Int32) : (∃ p, p < P ∧ x = nI p ∧ (if x < 0 then (0 : Int32) else (if nI P ≤ x then 0 else 1)) = 1 ∧ f_X7_in x.toInt64 0 ((t - 1).toInt64) = 1) ∨ ((if x < 0 then (0 : Int32) else (if nI P ≤ x then 0 else 1)) = 0 ∧ f_X7_in x.toInt64 0 ((t - 1).toInt64) = 0) := by
  subst ht
  rw [in6 hP, in7, pred_toInt hP, show (0 : Int64).toInt = 0 from rfl]
  by_cases h : 0 ≤ x.toInt ∧ x.toInt < P
  · obtain ⟨p, h1, h2⟩ := of_in hP h
    exact Or.inl ⟨p, h1, h2, if_pos h, if_pos (by omega)⟩
  · exact Or.inr ⟨if_neg h, if_neg (by omega)⟩
theorem person_cases {P : Nat} (hP : P ≤ 6) {told : Nat → Int32} (ht : told 1 = nI P) (x : Int32) : (∃ p, p < P ∧ x = nI p ∧ f_X6_isPerson (nI P) x = 1 ∧ f_X7_isPerson told x = 1) ∨ (f_X6_isPerson (nI P) x = 0 ∧ f_X7_isPerson told x = 0) := cnt_cases (by omega) ht x
theorem barber_cases {P : Nat} (hP : P ≤ 4) {told : Nat → Int32} (ht : told 0 = nI P) (x : Int32) : (∃ p, p < P ∧ x = nI p ∧ f_X6_isBarber (nI P) x = 1 ∧ f_X7_isBarber told x = 1) ∨ (f_X6_isBarber (nI P) x = 0 ∧ f_X7_isBarber told x = 0) := cnt_cases (by omega) ht x
theorem rumour_cases {P : Nat} (hP : P ≤ 8) {told : Nat → Int32} (ht : told 2 = nI P) (x : Int32) : (∃ p, p < P ∧ x = nI p ∧ f_X6_isRumour (nI P) x = 1 ∧ f_X7_isRumour told x = 1) ∨ (f_X6_isRumour (nI P) x = 0 ∧ f_X7_isRumour told x = 0) := cnt_cases (by omega) ht x
theorem strip_cases (x : Int32) : (∃ p, p < 6 ∧ x = nI p ∧ f_X6_isStrip x = 1 ∧ f_X7_isStrip x = 1) ∨ (f_X6_isStrip x = 0 ∧ f_X7_isStrip x = 0) := cnt_cases (P := 6) (t := 6) (by omega) rfl x
theorem i10 : ¬ (1 : Int32) = 0 := by decide
/-! parts of the state -/
theorem RT.B {B P R : Nat} {tb tp tr : Int32} {knd sec brd rms told : Nat → Int32} (h : RT B P R tb tp tr knd sec brd rms told) : tb = nI B ∧ tp = nI P ∧ tr = nI R ∧ 1 ≤ B ∧ B ≤ 4 ∧ P ≤ 6 ∧ R ≤ 8 := h.1
theorem RT.t {B P R : Nat} {tb tp tr : Int32} {knd sec brd rms told : Nat → Int32} (h : RT B P R tb tp tr knd sec brd rms told) : told 0 = nI B ∧ told 1 = nI P ∧ told 2 = nI R := h.2.1
theorem SN.congr {B P : Nat} {s v s' v' : Nat → Int32} (hP6 : P ≤ 6) (h : SN B P s v) (hs : ∀ j, j < 85 → s' j = s j) (hv : ∀ j, j < 85 → v' j = v j) : SN B P s' v' := by
  obtain ⟨h1, h2, h3, h4, h5⟩ := h
  refine ⟨?_, ?_, fun p k hp hk => ?_, fun j hj => ?_, fun b p hb hp hn => ?_⟩
  · rw [hs 0 (by omega), hv 0 (by omega)]; exact h1
  · rw [hv 0 (by omega)]; exact h2
  · rw [hs _ (by omega), hv _ (by omega)]; exact h3 p k hp hk
  · rw [hs _ (by omega), hs _ (by omega), hv _ (by omega), hv _ (by omega)]; exact h4 j hj
  · rw [hv _ (by omega)]; exact h5 b p hb hp hn
