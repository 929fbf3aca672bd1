theorem lits (a b : Nat) (hb : b < 2000) (ha : a < 2000) (h : a ≠ b) : ¬ nI a = nI b := fun z => h ((nI_eq (by omega) (by omega)).mp z)
section RE
variable {B P R : Nat} {tb tp tr : Int32} {knd sec brd rms told : Nat → Int32} {s w : Nat → Int32}
theorem beardsOf_eq (hN : SN B P s w) (hP : P ≤ 6) {p : Nat} (hp : p < P) : f_X4_beardsOf s (nI p) = f_X7_beardsOf w (nI p) := by
  unfold f_X4_beardsOf x_X4_beardsOf_4 f_X7_beardsOf x_X7_beardsOf_4
  refine lp_congr 6 (fun i z hi => ?_)
  show z + f_X4_beardOn s (nI p) (nI i) = z + w (((1 + (6 * nI p)) + nI i).toNatClampNeg)
  rw [beardOn_at (by omega) hi, amB0, cl (by omega), hN.beard hp hi]
theorem bare_eq (hN : SN B P s w) (hP : P ≤ 6) {p : Nat} (hp : p < P) : f_X4_bareStrips s (nI p) = f_X7_smoothOf w (nI p) := by
  unfold f_X4_bareStrips x_X4_bareStrips_4 f_X7_smoothOf x_X7_smoothOf_4
  refine lp_congr 6 (fun i z hi => ?_)
  show (if f_X4_beardOn s (nI p) (nI i) = 0 then (z ||| (1 <<< ((nI i) &&& 31))) else z) = z ||| (if w (((1 + (6 * nI p)) + nI i).toNatClampNeg) = 0 then (1 <<< ((nI i) &&& 31)) else 0)
  rw [beardOn_at (by omega) hi, amB0, cl (by omega), hN.beard hp hi]
  by_cases c : w (1 + (6 * p + i)) = 0
  · rw [if_pos c, if_pos c]
  · rw [if_neg c, if_neg c, Int32.or_zero]
end RE
theorem rl_person : Rl_person := by
  intro lat und kpl len ncl spe sru sbe sen lets wrds nums tb tp tr knd sec brd rms std sn ss sb sp past kept w told read isK undoes text texted seen seS seB seP at_ start clauses number word a1 a2 hR
  refine ⟨?_, hR⟩
  obtain ⟨B, P, R, hT, -, -, hN, -⟩ := hR
  obtain ⟨e0, e1, e2, b1, b2, b3, b4⟩ := hT.B
  obtain ⟨t0, t1, t2⟩ := hT.t
  subst e1
  unfold f_X6_person f_X7_person
  rcases person_cases b3 t1 a1 with ⟨p, hp, rfl, g6, g7⟩ | ⟨g6, g7⟩
  · rw [g6, g7, if_neg i10, if_neg i10, kindOf_eq hT hp, secretOf_eq hT hp, bare_eq hN b3 hp, beardsOf_eq hN b3 hp, am3 p (by omega), am9 p (by omega)]
  · rw [if_pos g6, if_pos g7]
theorem rl_beard : Rl_beard := by
  intro lat und kpl len ncl spe sru sbe sen lets wrds nums tb tp tr knd sec brd rms std sn ss sb sp past kept w told read isK undoes text texted seen seS seB seP at_ start clauses number word a1 a2 hR
  refine ⟨?_, hR⟩
  obtain ⟨B, P, R, hT, -, -, hN, -⟩ := hR
  obtain ⟨e0, e1, e2, b1, b2, b3, b4⟩ := hT.B
  obtain ⟨t0, t1, t2⟩ := hT.t
  subst e1
  unfold f_X6_beard f_X7_beard v_X7_beard_5_0
  rcases person_cases b3 t1 a1 with ⟨p, hp, rfl, g6, g7⟩ | ⟨g6, g7⟩
  · rw [g6, g7, if_neg i10, if_neg i10]
    rcases strip_cases a2 with ⟨k, hk, rfl, h6, h7⟩ | ⟨h6, h7⟩
    · rw [h6, h7, if_neg i10, if_neg i10, beardOn_at (by omega) hk, amB0, cl (by omega), hN.beard hp hk]
    · rw [if_pos h6, if_pos h7]
  · rw [if_pos g6, if_pos g7]
theorem rl_rumour : Rl_rumour := by
  intro lat und kpl len ncl spe sru sbe sen lets wrds nums tb tp tr knd sec brd rms std sn ss sb sp past kept w told read isK undoes text texted seen seS seB seP at_ start clauses number word a1 hR
  refine ⟨?_, hR⟩
  obtain ⟨B, P, R, hT, -, -, hN, -⟩ := hR
  obtain ⟨e0, e1, e2, b1, b2, b3, b4⟩ := hT.B
  obtain ⟨t0, t1, t2⟩ := hT.t
  subst e2
  unfold f_X6_rumour f_X7_rumour v_X7_rumour_5_0 f_X5_rumourNumber
  rcases rumour_cases b4 t2 a1 with ⟨p, hp, rfl, g6, g7⟩ | ⟨g6, g7⟩
  · rw [g6, g7, if_neg i10, if_neg i10, at_in (by omega) (by omega), am51 p (by omega), (hT.2.2.2.2.2 p hp).1]
  · rw [if_pos g6, if_pos g7]
theorem rl_knows : Rl_knows := by
  intro lat und kpl len ncl spe sru sbe sen lets wrds nums tb tp tr knd sec brd rms std sn ss sb sp past kept w told read isK undoes text texted seen seS seB seP at_ start clauses number word a1 a2 a3 hR
  refine ⟨?_, hR⟩
  obtain ⟨B, P, R, hT, -, -, hN, -⟩ := hR
  have hT0 := hT
  obtain ⟨e0, e1, e2, b1, b2, b3, b4⟩ := hT.B
  obtain ⟨t0, t1, t2⟩ := hT.t
  subst e0; subst e1
  unfold f_X6_knows f_X7_knows v_X7_knows_28_0
  rcases barber_cases b2 t0 a1 with ⟨b, hb, rfl, g6, g7⟩ | ⟨g6, g7⟩
  · rw [g6, g7, if_neg i10, if_neg i10]
    rcases person_cases b3 t1 a2 with ⟨p, hp, rfl, h6, h7⟩ | ⟨h6, h7⟩
    · have ef := fitsOf_at (told := told) (w := w) (b := b) (p := p) (by omega) (by omega) 0 (by omega)
      rw [Nat.zero_add, Nat.zero_add] at ef
      rw [h6, h7, if_neg i10, if_neg i10, known_at (by omega) (by omega), parts_at (by omega) (by omega), amK0, amP0, cl (by omega), cl (by omega), hN.known (by omega) (by omega), hN.parts (by omega) (by omega), fits_eq hT0 (hN.within (by omega) (by omega))]
      rw [show f_X7_fitsOf w told 0 (nI b) (nI p) = _ from ef]
    · rw [if_pos h6, if_pos h7]
  · rw [if_pos g6, if_pos g7]
theorem rl_as : Rl_as := by
  intro lat und kpl len ncl spe sru sbe sen lets wrds nums tb tp tr knd sec brd rms std sn ss sb sp past kept w told read isK undoes text texted seen seS seB seP at_ start clauses number word a1 a2 hR
  refine ⟨?_, hR⟩
  obtain ⟨B, P, R, hT, -, -, hN, -⟩ := hR
  obtain ⟨e0, e1, e2, b1, b2, b3, b4⟩ := hT.B
  obtain ⟨t0, t1, t2⟩ := hT.t
  subst e1
  unfold f_X6_as f_X7_as v_X7_as_65_0 v_X7_as_38_0
  rcases person_cases b3 t1 a1 with ⟨p, hp, rfl, g6, g7⟩ | ⟨g6, g7⟩
  · rw [g6, g7, if_neg i10, if_neg i10]
    have et := tellsNow_eq hT hN hp (k := 2) (by omega)
    rw [show f_X6_tellsNow knd sec std (nI p) 2 = _ from et, kindOf_eq hT hp, am3 p (by omega)]
    have ew : w (((1 + (6 * nI p)) + 2).toNatClampNeg) = w (1 + (6 * p + 2)) := by
      rw [show ((1 + (6 * nI p)) + 2).toNatClampNeg = _ from amB0 p 2, cl (by omega)]
    rw [ew, in7]
    have hz : (0 : Int64).toInt = 0 ∧ (4 : Int64).toInt = 4 := ⟨rfl, rfl⟩
    rw [hz.1, hz.2]
    by_cases c : 0 ≤ a2.toInt ∧ a2.toInt < 5
    · obtain ⟨a, ha, rfl⟩ := of_in (n := 5) (by omega) c
      rw [if_neg (nI_pos (by omega)), if_pos (show nI a ≤ (4 : Int32) from (nI_leI (b := 4) (by omega) (by omega)).mpr (by omega)), if_neg (show ¬ ((if 0 ≤ (nI a).toInt ∧ (nI a).toInt ≤ 4 then (1 : Int32) else 0) = 0) by rw [if_pos (by omega)]; decide)]
      obtain ⟨-, -, ⟨d, -, hd, ed⟩, -⟩ := hT.2.2.1 p hp
      rw [ed]
      have key : ∀ (d : Fin 4) (a : Fin 5), (f_X6_isSuch (nI d.1) (nI a.1) = 0) ↔ ((if nI a.1 = 0 then (1 : Int32) else (if nI a.1 = nI d.1 + 1 then 1 else (if nI a.1 = 1 then (if 4 ≤ nI d.1 + 1 then 0 else 1) else 0))) = 0) := by decide +kernel
      have k1 := key ⟨d, hd⟩ ⟨a, ha⟩
      dsimp only at k1
      by_cases c6 : f_X6_isSuch (nI d) (nI a) = 0
      · rw [if_pos c6, if_pos (k1.mp c6)]
      · rw [if_neg c6, if_neg (fun z => c6 (k1.mpr z))]; rfl
    · rw [if_pos (show (if 0 ≤ a2.toInt ∧ a2.toInt ≤ 4 then (1 : Int32) else 0) = 0 from if_neg (by omega))]
      by_cases h : a2 < 0
      · rw [if_pos h]
      · rw [if_neg h, if_neg (fun z => ?_)]
        rw [Int32.le_iff_toInt_le] at z
        rw [Int32.lt_iff_toInt_lt] at h
        have z1 : a2.toInt ≤ 4 := z
        have h1 : ¬ a2.toInt < 0 := h
        omega
  · rw [if_pos g6, if_pos g7]
