/-! a clause is heard, by the class and by the reference -/
section HE
variable {B P R : Nat} {tb tp tr : Int32} {knd sec brd rms rd : Nat → Int32}
theorem hear_town (h : RT B P R tb tp tr knd sec brd rms rd) {v : Nat} (h1 : 1 ≤ v) (h4 : v ≤ 4) (y z : Int32) : f_X5_hear tb tp tr knd sec brd rms 4 (nI v) y z = (nI v, 0, 0, knd, sec, f_X0_zero 36 brd, rms) ∧ RT v 0 0 (nI v) 0 0 knd sec (f_X0_zero 36 brd) rms (upd (upd (upd rd 0 (nI v)) 1 0) 2 0) := by
  constructor
  · have e : (if (1 : Int32) < (if nI v < 4 then nI v else 4) then (if nI v < 4 then nI v else 4) else 1) = nI v := by
      rcases (show v = 1 ∨ v = 2 ∨ v = 3 ∨ v = 4 by omega) with rfl | rfl | rfl | rfl <;> decide
    unfold f_X5_hear v_X5_hear_1_0 v_X5_hear_1_1 v_X5_hear_1_2 v_X5_hear_1_3 v_X5_hear_1_4 v_X5_hear_1_5 v_X5_hear_1_6 f_X5_found
    simp only [if_true]
    rw [e]
  · refine ⟨⟨rfl, rfl, rfl, h1, h4, by omega, by omega⟩, ⟨?_, ?_, ?_⟩, fun p hp => absurd hp (by omega), fun p k hp => absurd hp (by omega), fun p k _ hp hk => ?_, fun r hr => absurd hr (by omega)⟩
    · rw [un (by omega), un (by omega), us]
    · rw [un (by omega), us]; rfl
    · rw [us]; rfl
    · rw [zero_in 36 brd (by omega), if_pos (by omega)]
theorem hear_rumour (h : RT B P R tb tp tr knd sec brd rms rd) {v : Nat} (hR : R < 8) (hv : v ≤ 63) (y z : Int32) : f_X5_hear tb tp tr knd sec brd rms 5 (nI v) y z = (tb, tp, nI (R + 1), knd, sec, brd, upd rms R (nI v)) ∧ RT B P (R + 1) tb tp (nI (R + 1)) knd sec brd (upd rms R (nI v)) (upd (upd rd ((51 + rd 2).toNatClampNeg) (nI v)) 2 ((upd rd ((51 + rd 2).toNatClampNeg) (nI v)) 2 + 1)) := by
  obtain ⟨⟨e0, e1, e2, b1, b2, b3, b4⟩, ⟨t0, t1, t2⟩, h3, h4, h5, h6⟩ := h
  have e5 : (51 + rd 2).toNatClampNeg = 51 + R := by rw [t2, am51 R (by omega)]
  constructor
  · unfold f_X5_hear v_X5_hear_1_0 v_X5_hear_1_1 v_X5_hear_1_2 v_X5_hear_1_3 v_X5_hear_1_4 v_X5_hear_1_5 v_X5_hear_1_6 f_X5_addRumour
    simp only [show ¬ (5 : Int32) = 4 by decide, if_false, if_true]
    rw [e2, put_in (by omega) (by omega), show (if (nI R + 1) < 8 then (nI R + 1) else (8 : Int32)) = nI (R + 1) from capinc (m := 8) hR (by omega)]
  · rw [e5, un (show 2 ≠ 51 + R by omega), t2, nI_1]
    refine ⟨⟨e0, e1, rfl, b1, b2, b3, by omega⟩, ⟨?_, ?_, ?_⟩, fun p hp => ?_, fun p k hp hk => ?_, h5, fun r hr => ?_⟩
    · rw [un (by omega), un (by omega)]; exact t0
    · rw [un (by omega), un (by omega)]; exact t1
    · rw [us]
    · rw [un (by omega), un (by omega), un (by omega), un (by omega)]; exact h3 p hp
    · rw [un (by omega), un (by omega)]; exact h4 p k hp hk
    · by_cases e : r = R
      · subst e
        rw [us, un (by omega), us]
        exact ⟨rfl, v, by omega, by omega, rfl⟩
      · rw [un e, un (by omega), un (by omega)]; exact h6 r (by omega)
theorem hear_beard (h : RT B P R tb tp tr knd sec brd rms rd) {p k d : Nat} (hp : p < P) (hk : k < 6) (hd : d ≤ 9) : f_X5_hear tb tp tr knd sec brd rms 6 (nI p) (nI k) (nI d) = (tb, tp, tr, knd, sec, upd brd (6 * p + k) (nI d), rms) ∧ RT B P R tb tp tr knd sec (upd brd (6 * p + k) (nI d)) rms (upd rd (((15 + (6 * nI p)) + nI k).toNatClampNeg) (nI d)) := by
  obtain ⟨⟨e0, e1, e2, b1, b2, b3, b4⟩, ⟨t0, t1, t2⟩, h3, h4, h5, h6⟩ := h
  constructor
  · unfold f_X5_hear v_X5_hear_1_0 v_X5_hear_1_1 v_X5_hear_1_2 v_X5_hear_1_3 v_X5_hear_1_4 v_X5_hear_1_5 v_X5_hear_1_6
    simp only [show ¬ (6 : Int32) = 4 by decide, show ¬ (6 : Int32) = 5 by decide, if_false, if_true]
    rw [adT, put_in (by omega) (by omega)]
  · have e : ((15 + (6 * nI p)) + nI k).toNatClampNeg = 15 + (6 * p + k) := by
      rw [show (6 : Int32) * nI p = nI (6 * p) from nI_mul 6 p, show (15 : Int32) + nI (6 * p) = nI (15 + 6 * p) from nI_add 15 _, nI_add, cl (by omega)]
      omega
    rw [e]
    refine ⟨⟨e0, e1, e2, b1, b2, b3, b4⟩, ⟨?_, ?_, ?_⟩, fun p' hp' => ?_, fun p' k' hp' hk' => ?_, fun p' k' h1 h2 h3' => ?_, fun r hr => ?_⟩
    · rw [un (by omega)]; exact t0
    · rw [un (by omega)]; exact t1
    · rw [un (by omega)]; exact t2
    · rw [un (by omega), un (by omega)]; exact h3 p' hp'
    · by_cases e9 : 6 * p' + k' = 6 * p + k
      · rw [e9, us, us]
        exact ⟨rfl, d, by omega, by omega, rfl⟩
      · rw [un e9, un (by omega)]; exact h4 p' k' hp' hk'
    · rw [un (by omega)]; exact h5 p' k' h1 h2 h3'
    · rw [un (by omega)]; exact h6 r hr
/-- the reference's row with one more of people -/
def oneMore (rd : Nat → Int32) (i v : Int32) : Nat → Int32 :=
  upd (lp (fun iz z => upd z (((15 + (6 * (rd 1))) + (nI iz)).toNatClampNeg) 0) (upd (upd rd ((3 + (rd 1)).toNatClampNeg) i) ((9 + (rd 1)).toNatClampNeg) v) 6) 1 ((lp (fun iz z => upd z (((15 + (6 * (rd 1))) + (nI iz)).toNatClampNeg) 0) (upd (upd rd ((3 + (rd 1)).toNatClampNeg) i) ((9 + (rd 1)).toNatClampNeg) v) 6) 1 + 1)
theorem zero6 (g : Nat → Int32) {P : Nat} (hP : P < 6) (j : Nat) : lp (fun iz z => upd z (((15 + (6 * nI P)) + (nI iz)).toNatClampNeg) 0) g 6 j = if 15 + 6 * P ≤ j ∧ j < 15 + 6 * P + 6 then 0 else g j := by
  refine lp_ind (fun i (z : Nat → Int32) => ∀ j, z j = if 15 + 6 * P ≤ j ∧ j < 15 + 6 * P + i then 0 else g j) 6 (fun j => by rw [if_neg (by omega)]) (fun i z hi ih j => ?_) j
  have e : ((15 + (6 * nI P)) + nI i).toNatClampNeg = 15 + 6 * P + i := by
    rw [show (6 : Int32) * nI P = nI (6 * P) from nI_mul 6 P, show (15 : Int32) + nI (6 * P) = nI (15 + 6 * P) from nI_add 15 _, nI_add, cl (by omega)]
  rw [e]
  by_cases c : j = 15 + 6 * P + i
  · subst c
    rw [us, if_pos (by omega)]
  · rw [un c, ih j]
    by_cases c2 : 15 + 6 * P ≤ j ∧ j < 15 + 6 * P + i
    · rw [if_pos c2, if_pos (by omega)]
    · rw [if_neg c2, if_neg (by omega)]
theorem hear_one (h : RT B P R tb tp tr knd sec brd rms rd) {i v : Nat} (hi : i < 4) (hP : P < 6) (hv : v ≤ 63) (y z : Int32) : f_X5_hear tb tp tr knd sec brd rms (nI i) (nI v) y z = (tb, nI (P + 1), tr, upd knd P (nI i), upd sec P (nI v), brd, rms) ∧ RT B (P + 1) R tb (nI (P + 1)) tr (upd knd P (nI i)) (upd sec P (nI v)) brd rms (oneMore rd (nI i) (nI v)) := by
  obtain ⟨⟨e0, e1, e2, b1, b2, b3, b4⟩, ⟨t0, t1, t2⟩, h3, h4, h5, h6⟩ := h
  constructor
  · have q4 : ¬ nI i = (4 : Int32) := lits i 4 (by omega) (by omega) (by omega)
    have q5 : ¬ nI i = (5 : Int32) := lits i 5 (by omega) (by omega) (by omega)
    have q6 : ¬ nI i = (6 : Int32) := lits i 6 (by omega) (by omega) (by omega)
    unfold f_X5_hear v_X5_hear_1_0 v_X5_hear_1_1 v_X5_hear_1_2 v_X5_hear_1_3 v_X5_hear_1_4 v_X5_hear_1_5 v_X5_hear_1_6 f_X5_addPerson
    simp only [q4, q5, q6, if_false]
    rw [e1, put_in (by omega) (by omega), put_in (by omega) (by omega), show (if (nI P + 1) < 6 then (nI P + 1) else (6 : Int32)) = nI (P + 1) from capinc (m := 6) hP (by omega)]
  · have eo : oneMore rd (nI i) (nI v) = upd (lp (fun iz z => upd z (((15 + (6 * nI P)) + (nI iz)).toNatClampNeg) 0) (upd (upd rd (3 + P) (nI i)) (9 + P) (nI v)) 6) 1 (nI (P + 1)) := by
      unfold oneMore
      rw [t1, am3 P (by omega), am9 P (by omega), zero6 _ hP 1, if_neg (by omega), un (by omega), un (by omega), t1, nI_1]
    have hz := zero6 (upd (upd rd (3 + P) (nI i)) (9 + P) (nI v)) hP
    rw [eo]
    refine ⟨⟨e0, rfl, e2, b1, b2, by omega, b4⟩, ⟨?_, ?_, ?_⟩, fun p hp => ?_, fun p k hp hk => ?_, fun p k h1 h2 h3' => h5 p k (by omega) h2 h3', fun r hr => ?_⟩
    · rw [un (by omega), hz, if_neg (by omega), un (by omega), un (by omega)]; exact t0
    · rw [us]
    · rw [un (by omega), hz, if_neg (by omega), un (by omega), un (by omega)]; exact t2
    · by_cases e : p = P
      · subst e
        rw [us, us, un (by omega), un (by omega), hz, hz, if_neg (by omega), if_neg (by omega), un (by omega), us, us]
        exact ⟨rfl, rfl, ⟨i, by omega, hi, rfl⟩, ⟨v, by omega, by omega, rfl⟩⟩
      · rw [un e, un e, un (by omega), un (by omega), hz, hz, if_neg (by omega), if_neg (by omega), un (by omega), un (by omega), un (by omega), un (by omega)]
        exact h3 p (by omega)
    · rw [un (by omega), hz]
      by_cases e : p = P
      · subst e
        rw [if_pos (by omega), h5 p k (Nat.le_refl p) hP hk]
        exact ⟨rfl, 0, by omega, by omega, rfl⟩
      · rw [if_neg (by omega), un (by omega), un (by omega)]
        exact h4 p k (by omega) hk
    · rw [un (by omega), hz, if_neg (by omega), un (by omega), un (by omega)]
      exact h6 r hr
end HE
