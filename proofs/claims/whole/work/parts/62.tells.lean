/-! what both sides read alike -/
section RD
variable {B P R : Nat} {tb tp tr : Int32} {knd sec brd rms told : Nat → Int32} {s w : Nat → Int32}
theorem kindOf_eq (hT : RT B P R tb tp tr knd sec brd rms told) {p : Nat} (hp : p < P) : f_X5_kindOf knd (nI p) = told (3 + p) := by
  have h6 := hT.B.2.2.2.2.2.1
  unfold f_X5_kindOf
  rw [at_in (by omega) (by omega)]
  exact (hT.2.2.1 p hp).1
theorem secretOf_eq (hT : RT B P R tb tp tr knd sec brd rms told) {p : Nat} (hp : p < P) : f_X5_secretOf sec (nI p) = told (9 + p) := by
  have h6 := hT.B.2.2.2.2.2.1
  unfold f_X5_secretOf
  rw [at_in (by omega) (by omega)]
  exact (hT.2.2.1 p hp).2.1
theorem wouldTell_eq (hT : RT B P R tb tp tr knd sec brd rms told) {p : Nat} (hp : p < P) (k b : Int32) : f_X5_wouldTell knd sec (nI p) k b = f_X7_tells told (nI p) k b := by
  have h6 := hT.B.2.2.2.2.2.1
  unfold f_X5_wouldTell f_X7_tells
  rw [kindOf_eq hT hp, secretOf_eq hT hp]
  unfold v_X7_tells_50_0 v_X7_tells_62_0 v_X7_tells_74_0
  rw [am3 p (by omega), am9 p (by omega)]
  rfl
theorem beardOn_at {p k : Nat} (hp : p < 6) (hk : k < 6) : f_X4_beardOn s (nI p) (nI k) = s (1 + (6 * p + k)) := by
  unfold f_X4_beardOn
  rw [adB, at_in (by omega) (by omega)]
theorem known_at {b p : Nat} (hb : b < 4) (hp : p < 6) : f_X4_stripsKnown s (nI b) (nI p) = s (37 + (6 * b + p)) := by
  unfold f_X4_stripsKnown
  rw [adK, at_in (by omega) (by omega)]
theorem parts_at {b p : Nat} (hb : b < 4) (hp : p < 6) : f_X4_partsKnown s (nI b) (nI p) = s (61 + (6 * b + p)) := by
  unfold f_X4_partsKnown
  rw [adP, at_in (by omega) (by omega)]
theorem setBeard_at {p k : Nat} (hp : p < 6) (hk : k < 6) (x : Int32) : f_X4_setBeard s (nI p) (nI k) x = upd s (1 + (6 * p + k)) x := by
  unfold f_X4_setBeard
  rw [adB, put_in (by omega) (by omega)]
theorem setKnown_at {b p : Nat} (hb : b < 4) (hp : p < 6) (x y : Int32) : f_X4_setKnown s (nI b) (nI p) x y = upd (upd s (37 + (6 * b + p)) x) (61 + (6 * b + p)) y := by
  unfold f_X4_setKnown
  rw [adK, adP, put_in (by omega) (by omega), put_in (by omega) (by omega)]
theorem SN.beard (hN : SN B P s w) {p k : Nat} (hp : p < P) (hk : k < 6) : s (1 + (6 * p + k)) = w (1 + (6 * p + k)) := (hN.2.2.1 p k hp hk).1
theorem SN.known (hN : SN B P s w) {b p : Nat} (hb : b < 4) (hp : p < 6) : s (37 + (6 * b + p)) = w (37 + (6 * b + p)) := (hN.2.2.2.1 (6 * b + p) (by omega)).1
theorem SN.parts (hN : SN B P s w) {b p : Nat} (hb : b < 4) (hp : p < 6) : s (61 + (6 * b + p)) = w (61 + (6 * b + p)) := (hN.2.2.2.1 (6 * b + p) (by omega)).2.1
theorem SN.kkb (hN : SN B P s w) {b p : Nat} (hb : b < 4) (hp : p < 6) : kb (w (37 + (6 * b + p))) 0 64 := (hN.2.2.2.1 (6 * b + p) (by omega)).2.2.1
theorem SN.within (hN : SN B P s w) {b p : Nat} (hb : b < 4) (hp : p < 6) : w (61 + (6 * b + p)) &&& w (37 + (6 * b + p)) = w (61 + (6 * b + p)) := (hN.2.2.2.1 (6 * b + p) (by omega)).2.2.2
theorem tellsNow_eq (hT : RT B P R tb tp tr knd sec brd rms told) (hN : SN B P s w) {p k : Nat} (hp : p < P) (hk : k < 6) : f_X6_tellsNow knd sec s (nI p) (nI k) = f_X7_tells told (nI p) (nI k) (w (1 + (6 * p + k))) := by
  have h6 := hT.B.2.2.2.2.2.1
  unfold f_X6_tellsNow
  rw [beardOn_at (by omega) hk, hN.beard hp hk, wouldTell_eq hT hp]
/-- what is told is 0, 1 or nothing -/
theorem tells_vals (k b : Int32) {p i : Nat} (hk : k = nI i) (hi : i < 32) : f_X7_tells told (nI p) k b = 0 ∨ f_X7_tells told (nI p) k b = 1 ∨ f_X7_tells told (nI p) k b = -1 := by
  subst hk
  unfold f_X7_tells v_X7_tells_50_0 v_X7_tells_62_0 v_X7_tells_74_0
  rw [bt_shr1 _ i hi]
  cases bt (told ((9 + nI p).toNatClampNeg)) i <;> (repeat' split) <;> simp
theorem fitsOf_at {b p : Nat} (hb : b < 4) (hp : p < 6) (r : Nat) (hr : r < 900) : f_X7_fitsOf w told (nI r) (nI b) (nI p) = f_X7_fitsBy told (w (r + (37 + (6 * b + p)))) (w (r + (61 + (6 * b + p)))) := by
  unfold f_X7_fitsOf
  rw [amK, amP, cl (by omega), cl (by omega)]
end RD
