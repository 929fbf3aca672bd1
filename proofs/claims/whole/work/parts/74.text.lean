/-! the text: n letters, their numbers tx -/
def TXT (n : Nat) (tx : Nat → Nat) (lets text : Nat → Int32) : Prop := n ≤ 160 ∧ ∀ j, j < n → lets j = nI (tx j) ∧ text j = nI (tx j) ∧ tx j < 256
theorem TXT.of {len texted : Int32} {lets text : Nat → Int32} (h : RX len lets texted text) : ∃ n tx, len = nI n ∧ texted = nI n ∧ TXT n tx lets text := by
  obtain ⟨n, hn, e1, e2, hx⟩ := h
  refine ⟨n, fun j => (text j).toInt.toNat, e1, e2, hn, fun j hj => ?_⟩
  obtain ⟨q1, a, -, ha, q2⟩ := hx j hj
  have e : (text j).toInt.toNat = a := by rw [q2, nI_toInt (by omega)]; rfl
  dsimp only
  rw [e]
  exact ⟨q1.trans q2, q2, ha⟩
/-- r is the first place from i on where Q does not hold -/
def En (Q : Nat → Prop) (i r : Nat) : Prop := i ≤ r ∧ (∀ j, i ≤ j → j < r → Q j) ∧ ¬ Q r
theorem En.uniq {Q : Nat → Prop} {i r r' : Nat} (h : En Q i r) (h' : En Q i r') : r = r' := by
  obtain ⟨a1, a2, a3⟩ := h
  obtain ⟨b1, b2, b3⟩ := h'
  rcases Nat.lt_trichotomy r r' with q | q | q
  · exact absurd (b2 r a1 q) a3
  · exact q
  · exact absurd (a2 r' b1 q) b3
theorem En.here {Q : Nat → Prop} {i : Nat} (h : ¬ Q i) : En Q i i := ⟨Nat.le_refl i, fun j h1 h2 => absurd h2 (by omega), h⟩
theorem En.next {Q : Nat → Prop} {i r : Nat} (h : Q i) (hr : En Q (i + 1) r) : En Q i r := by
  obtain ⟨a1, a2, a3⟩ := hr
  refine ⟨by omega, fun j h1 h2 => ?_, a3⟩
  by_cases e : j = i
  · subst e; exact h
  · exact a2 j (by omega) h2
def so (c : Nat) : Nat := if 97 ≤ c ∧ c ≤ 122 then 1 else if 48 ≤ c ∧ c ≤ 57 then 2 else 0
def Blank (n : Nat) (tx : Nat → Nat) (j : Nat) : Prop := j < n ∧ tx j = 32
def SoAt (n : Nat) (tx : Nat → Nat) (s : Nat) (j : Nat) : Prop := j < n ∧ so (tx j) = s
section TX
variable {n : Nat} {tx : Nat → Nat} {lets text : Nat → Int32}
theorem let_at (h : TXT n tx lets text) {j : Nat} (hj : j < n) : f_X0_at 160 lets (nI j) = nI (tx j) := by
  have hn := h.1
  rw [at_in (by omega) (by omega), (h.2 j hj).1]
theorem sortAt_at (h : TXT n tx lets text) {j : Nat} (hj : j < n) : f_X1_sortAt lets (nI j) = nI (so (tx j)) := by
  unfold f_X1_sortAt v_X1_sortAt_26_0
  rw [let_at h hj]
  have key : ∀ c : Fin 256, (if nI c.1 < 97 then (if nI c.1 < 48 then (0 : Int32) else (if 57 < nI c.1 then 0 else 2)) else (if 122 < nI c.1 then (if nI c.1 < 48 then 0 else (if 57 < nI c.1 then 0 else 2)) else 1)) = nI (so c.1) := by decide +kernel
  exact key ⟨tx j, (h.2 j hj).2.2⟩
theorem letterAt_in (h : TXT n tx lets text) {j : Nat} (hj : j < n) : f_X7_letterAt text (nI n) (nI j) = nI (tx j) := by
  have hn := h.1
  unfold f_X7_letterAt v_X7_letterAt_5_0
  rw [if_neg (by rw [nI_leI (by omega) (by omega)]; omega), cl (by omega), (h.2 j hj).2.1]
theorem letterAt_out (hn : n ≤ 160) {j : Nat} (hj : n ≤ j) (hj2 : j < 2000) : f_X7_letterAt text (nI n) (nI j) = -1 := by
  unfold f_X7_letterAt v_X7_letterAt_5_0
  rw [if_pos ((nI_leI (by omega) (by omega)).mpr hj)]
theorem isSmall_at (h : TXT n tx lets text) {j : Nat} (hj : j ≤ n) : (f_X7_isSmall text (nI n) (nI j) = 0) ↔ ¬ SoAt n tx 1 j := by
  have hn := h.1
  unfold f_X7_isSmall SoAt
  rw [in7]
  by_cases c : j < n
  · rw [letterAt_in h c]
    have hc := (h.2 j c).2.2
    have key : ∀ c : Fin 256, ((if (97 : Int64).toInt ≤ (nI c.1).toInt ∧ (nI c.1).toInt ≤ (122 : Int64).toInt then (1 : Int32) else 0) = 0) ↔ ¬ so c.1 = 1 := by decide +kernel
    have k1 := key ⟨tx j, hc⟩
    dsimp only at k1
    rw [k1]
    simp [c]
  · rw [letterAt_out hn (by omega) (by omega)]
    simp only [c, false_and, not_false_eq_true, iff_true]
    decide
theorem isDigit_at (h : TXT n tx lets text) {j : Nat} (hj : j ≤ n) : (f_X7_isDigit text (nI n) (nI j) = 0) ↔ ¬ SoAt n tx 2 j := by
  have hn := h.1
  unfold f_X7_isDigit SoAt
  rw [in7]
  by_cases c : j < n
  · rw [letterAt_in h c]
    have hc := (h.2 j c).2.2
    have key : ∀ c : Fin 256, ((if (48 : Int64).toInt ≤ (nI c.1).toInt ∧ (nI c.1).toInt ≤ (57 : Int64).toInt then (1 : Int32) else 0) = 0) ↔ ¬ so c.1 = 2 := by decide +kernel
    have k1 := key ⟨tx j, hc⟩
    dsimp only at k1
    rw [k1]
    simp [c]
  · rw [letterAt_out hn (by omega) (by omega)]
    simp only [c, false_and, not_false_eq_true, iff_true]
    decide
theorem fuel_of {a b : Nat} (ha : a ≤ 160) (hb : b ≤ a) : (((nI a).toInt - (nI b).toInt).toNat) + 1 = a - b + 1 := by
  rw [nI_toInt (by omega), nI_toInt (by omega)]
  omega
/-! blanks -/
theorem blank6 (h : TXT n tx lets text) : ∀ (fuel i : Nat), i ≤ n → n - i < fuel → ∃ r, r ≤ n ∧ En (Blank n tx) i r ∧ lo_X1_step_8 (nI n) lets fuel (nI i) = nI r := by
  have hn := h.1
  intro fuel
  induction fuel with
  | zero => exact fun i _ h2 => absurd h2 (by omega)
  | succ fuel ih =>
    intro i hi hf
    show ∃ r, r ≤ n ∧ En (Blank n tx) i r ∧ (if nI n ≤ nI i then nI i else (if f_X0_at 160 lets (nI i) = 32 then lo_X1_step_8 (nI n) lets fuel (nI i + 1) else nI i)) = nI r
    by_cases c : i < n
    · rw [if_neg (by rw [nI_leI (by omega) (by omega)]; omega), let_at h c]
      have hc := (h.2 i c).2.2
      by_cases c2 : tx i = 32
      · rw [c2, if_pos (show nI 32 = (32 : Int32) from rfl), nI_1]
        obtain ⟨r, r1, r2, r3⟩ := ih (i + 1) (by omega) (by omega)
        exact ⟨r, r1, r2.next ⟨c, c2⟩, r3⟩
      · rw [if_neg (show ¬ nI (tx i) = (32 : Int32) from lits _ 32 (by omega) (by omega) c2)]
        exact ⟨i, hi, En.here (fun z => c2 z.2), rfl⟩
    · rw [if_pos ((nI_leI (by omega) (by omega)).mpr (by omega))]
      exact ⟨i, hi, En.here (fun z => c z.1), rfl⟩
theorem blank7 (h : TXT n tx lets text) : ∀ (fuel i : Nat), i ≤ n → n - i < fuel → ∃ r, r ≤ n ∧ En (Blank n tx) i r ∧ lo_X7_begins_0 text (nI n) fuel (nI i) = nI r := by
  have hn := h.1
  intro fuel
  induction fuel with
  | zero => exact fun i _ h2 => absurd h2 (by omega)
  | succ fuel ih =>
    intro i hi hf
    show ∃ r, r ≤ n ∧ En (Blank n tx) i r ∧ (if f_X7_letterAt text (nI n) (nI i) = 32 then lo_X7_begins_0 text (nI n) fuel (nI i + 1) else nI i) = nI r
    by_cases c : i < n
    · rw [letterAt_in h c]
      have hc := (h.2 i c).2.2
      by_cases c2 : tx i = 32
      · rw [c2, if_pos (show nI 32 = (32 : Int32) from rfl), nI_1]
        obtain ⟨r, r1, r2, r3⟩ := ih (i + 1) (by omega) (by omega)
        exact ⟨r, r1, r2.next ⟨c, c2⟩, r3⟩
      · rw [if_neg (show ¬ nI (tx i) = (32 : Int32) from lits _ 32 (by omega) (by omega) c2)]
        exact ⟨i, hi, En.here (fun z => c2 z.2), rfl⟩
    · rw [letterAt_out hn (by omega) (by omega), if_neg (by decide)]
      exact ⟨i, hi, En.here (fun z => c z.1), rfl⟩
theorem begins_at (h : TXT n tx lets text) {e : Nat} (he : e ≤ n) : ∃ b, b ≤ n ∧ En (Blank n tx) e b ∧ f_X7_begins text (nI n) (nI e) = (nI b, nI b) ∧ x_X1_step_8 (nI n) (nI e) lets = nI b := by
  have hn := h.1
  obtain ⟨r, r1, r2, r3⟩ := blank7 h (n - e + 1) e he (by omega)
  obtain ⟨q, q1, q2, q3⟩ := blank6 h (n - e + 1) e he (by omega)
  have e1 : q = r := q2.uniq r2
  subst e1
  refine ⟨q, r1, r2, ?_, ?_⟩
  · unfold f_X7_begins x_X7_begins_0
    rw [fuel_of hn he, r3]
  · unfold x_X1_step_8
    rw [fuel_of hn he, q3]
/-! the class's tokens -/
theorem run6 (h : TXT n tx lets text) {sen : Int32} {b : Nat} (hb : b < n) (hx : x_X1_step_8 (nI n) sen lets = nI b) (hs : so (tx b) ≠ 0) : ∀ (fuel i : Nat), i ≤ n → n - i < fuel → ∃ r, r ≤ n ∧ En (SoAt n tx (so (tx b))) i r ∧ lo_X1_step_74 (nI n) sen lets fuel (nI i) = nI r := by
  have hn := h.1
  have hso : ∀ c, so c ≤ 2 := fun c => by unfold so; split; omega; split <;> omega
  intro fuel
  induction fuel with
  | zero => exact fun i _ h2 => absurd h2 (by omega)
  | succ fuel ih =>
    intro i hi hf
    show ∃ r, r ≤ n ∧ En (SoAt n tx (so (tx b))) i r ∧ (if nI n ≤ nI i then nI i else (if f_X1_sortAt lets (x_X1_step_8 (nI n) sen lets) = 0 then nI i else (if f_X1_sortAt lets (nI i) = f_X1_sortAt lets (x_X1_step_8 (nI n) sen lets) then lo_X1_step_74 (nI n) sen lets fuel (nI i + 1) else nI i))) = nI r
    have h1 := hso (tx b)
    rw [hx, sortAt_at h hb]
    by_cases c : i < n
    · have h2 := hso (tx i)
      rw [if_neg (by rw [nI_leI (by omega) (by omega)]; omega), if_neg (show ¬ nI (so (tx b)) = (0 : Int32) from nI_ne0 (by omega) (by omega)), sortAt_at h c]
      by_cases c2 : so (tx i) = so (tx b)
      · rw [if_pos (by rw [c2]), nI_1]
        obtain ⟨r, r1, r2, r3⟩ := ih (i + 1) (by omega) (by omega)
        exact ⟨r, r1, r2.next ⟨c, c2⟩, r3⟩
      · rw [if_neg (lits _ _ (by omega) (by omega) c2)]
        exact ⟨i, hi, En.here (fun z => c2 z.2), rfl⟩
    · rw [if_pos ((nI_leI (by omega) (by omega)).mpr (by omega))]
      exact ⟨i, hi, En.here (fun z => c z.1), rfl⟩
theorem run60 (h : TXT n tx lets text) {sen : Int32} {b : Nat} (hb : b < n) (hx : x_X1_step_8 (nI n) sen lets = nI b) (hs : so (tx b) = 0) (fuel : Nat) (x : Int32) : lo_X1_step_74 (nI n) sen lets fuel x = x := by
  match fuel with
  | 0 => rfl
  | f + 1 =>
    show (if nI n ≤ x then x else (if f_X1_sortAt lets (x_X1_step_8 (nI n) sen lets) = 0 then x else _)) = x
    rw [hx, sortAt_at h hb, hs, if_pos (show nI 0 = (0 : Int32) from rfl), ite_self]
/-- one step: the token from b to f behind e -/
theorem step_at (h : TXT n tx lets text) {e : Nat} (he : e ≤ n) : ∃ b f, b ≤ n ∧ f ≤ n ∧ b ≤ f ∧ En (Blank n tx) e b ∧ f_X1_step (nI n) (nI e) lets = (nI b, nI f) ∧ f_X7_begins text (nI n) (nI e) = (nI b, nI b) ∧ (b = n → f = n) ∧ (b < n → b < f ∧ (so (tx b) = 0 → f = b + 1) ∧ (so (tx b) ≠ 0 → En (SoAt n tx (so (tx b))) b f)) := by
  have hn := h.1
  obtain ⟨b, b1, b2, b3, b4⟩ := begins_at h he
  have estart : (if (nI b + 1) < nI n then (nI b + 1) else nI n) = nI (if b < n then b + 1 else n) := by
    by_cases c : b < n
    · rw [if_pos c]; exact capinc c (by omega)
    · rw [if_neg c, nI_1, if_neg (fun z => absurd ((nI_ltI (by omega) (by omega)).mp z) (by omega))]
  have est : f_X1_step (nI n) (nI e) lets = (nI b, lo_X1_step_74 (nI n) (nI e) lets (n - (if b < n then b + 1 else n) + 1) (nI (if b < n then b + 1 else n))) := by
    unfold f_X1_step x_X1_step_74
    rw [b4, estart, fuel_of hn (by split <;> omega)]
  by_cases c : b < n
  · rw [if_pos c] at est
    by_cases cs : so (tx b) = 0
    · rw [run60 h c b4 cs] at est
      exact ⟨b, b + 1, b1, by omega, by omega, b2, est, b3, fun z => absurd z (by omega), fun _ => ⟨by omega, fun _ => rfl, fun z => absurd cs z⟩⟩
    · obtain ⟨r, r1, r2, r3⟩ := run6 h c b4 cs (n - (b + 1) + 1) (b + 1) (by omega) (by omega)
      rw [r3] at est
      have r4 := r2.1
      exact ⟨b, r, b1, r1, by omega, b2, est, b3, fun z => absurd z (by omega), fun _ => ⟨by omega, fun z => absurd z cs, fun _ => r2.next ⟨c, rfl⟩⟩⟩
  · have eb : b = n := by omega
    rw [if_neg c] at est
    have el : lo_X1_step_74 (nI n) (nI e) lets (n - n + 1) (nI n) = nI n := by
      show (if nI n ≤ nI n then nI n else _) = _
      rw [if_pos ((nI_leI (by omega) (by omega)).mpr (Nat.le_refl n))]
    rw [el] at est
    exact ⟨b, n, b1, Nat.le_refl n, b1, b2, est, b3, fun _ => rfl, fun z => absurd z c⟩
end TX
