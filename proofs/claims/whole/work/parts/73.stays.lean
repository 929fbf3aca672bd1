/-! odds -/
theorem gcd_step (a b : Nat) (h : b ≠ 0) : Nat.gcd a b = Nat.gcd b (a % b) := by
  rw [Nat.gcd_comm a b, Nat.gcd_rec b a, Nat.gcd_comm]
theorem half_mod {b r k : Nat} (hr0 : r ≠ 0) (hr : r < b) (hb : b < 2 ^ (k + 1)) : b % r < 2 ^ k := by
  have h1 : b % r < r := Nat.mod_lt _ (Nat.pos_of_ne_zero hr0)
  have h2 := Nat.mod_add_div b r
  have h3 : 1 ≤ b / r := (Nat.one_le_div_iff (Nat.pos_of_ne_zero hr0)).mpr (Nat.le_of_lt hr)
  have h4 : r * 1 ≤ r * (b / r) := Nat.mul_le_mul_left r h3
  have h5 : 2 ^ (k + 1) = 2 * 2 ^ k := by rw [Nat.pow_succ, Nat.mul_comm]
  omega
theorem cd_gcd : ∀ (k fuel a b i : Nat), b < 2 ^ k → 2 * k + 1 ≤ fuel → a < 2 ^ 31 → b < 2 ^ 31 → lo_X6_commonDivisor_7 fuel i (nI a) (nI b) = nI (Nat.gcd a b) := by
  intro k
  induction k with
  | zero =>
    intro fuel a b i hb hf ha _
    have hb0 : b = 0 := by omega
    subst hb0
    match fuel, hf with
    | f + 1, _ =>
      show (if nI 0 = 0 then nI a else _) = _
      rw [if_pos nI_0, Nat.gcd_zero_right]
  | succ k ih =>
    intro fuel a b i hb hf ha hb31
    match fuel, hf with
    | f + 2, hf =>
      rcases Nat.eq_zero_or_pos b with rfl | hb0
      · show (if nI 0 = 0 then nI a else _) = _
        rw [if_pos nI_0, Nat.gcd_zero_right]
      · show (if nI b = 0 then nI a else lo_X6_commonDivisor_7 (f + 1) (i + 1) (nI b) (nI a - ((nI a / nI b) * nI b))) = _
        have hr : a % b < b := Nat.mod_lt _ hb0
        rw [if_neg (nI_ne0 hb0 hb31), nI_rem ha hb0 hb31, gcd_step a b (by omega)]
        rcases Nat.eq_zero_or_pos (a % b) with e | hr0
        · rw [e]
          show (if nI 0 = 0 then nI b else _) = _
          rw [if_pos nI_0, Nat.gcd_zero_right]
        · show (if nI (a % b) = 0 then nI b else lo_X6_commonDivisor_7 f (i + 1 + 1) (nI (a % b)) (nI b - ((nI b / nI (a % b)) * nI (a % b)))) = _
          have hr2 : b % (a % b) < a % b := Nat.mod_lt _ hr0
          rw [if_neg (nI_ne0 hr0 (by omega)), nI_rem hb31 hr0 (by omega), gcd_step b (a % b) (by omega)]
          exact ih f _ _ _ (half_mod (by omega) hr hb) (by omega) (by omega) (by omega)
theorem st_gcd (w told : Nat → Int32) (ba pe q part : Int32) : ∀ (k fuel a b : Nat), b < 2 ^ k → 2 * k + 1 ≤ fuel → a < 2 ^ 31 → b < 2 ^ 31 → lo_X7_stays_149 w told ba pe q part fuel (nI a) (nI b) = (if part = 0 then ((((x_X7_stays_51 w told ba pe q).1) / nI (Nat.gcd a b)), ((x_X7_stays_51 w told ba pe q).2)) else ((1000000 / nI (Nat.gcd a b)), ((x_X7_stays_51 w told ba pe q).2))) := by
  intro k
  induction k with
  | zero =>
    intro fuel a b hb hf ha _
    have hb0 : b = 0 := by omega
    subst hb0
    match fuel, hf with
    | f + 1, _ =>
      show (if nI 0 = 0 then _ else _) = _
      rw [if_pos nI_0, Nat.gcd_zero_right]
  | succ k ih =>
    intro fuel a b hb hf ha hb31
    match fuel, hf with
    | f + 2, hf =>
      rcases Nat.eq_zero_or_pos b with rfl | hb0
      · show (if nI 0 = 0 then _ else _) = _
        rw [if_pos nI_0, Nat.gcd_zero_right]
      · show (if nI b = 0 then _ else lo_X7_stays_149 w told ba pe q part (f + 1) (nI b) (nI a - ((nI a / nI b) * nI b))) = _
        have hr : a % b < b := Nat.mod_lt _ hb0
        rw [if_neg (nI_ne0 hb0 hb31), nI_rem ha hb0 hb31, gcd_step a b (by omega)]
        rcases Nat.eq_zero_or_pos (a % b) with e | hr0
        · rw [e]
          show (if nI 0 = 0 then _ else _) = _
          rw [if_pos nI_0, Nat.gcd_zero_right]
        · show (if nI (a % b) = 0 then _ else lo_X7_stays_149 w told ba pe q part f (nI (a % b)) (nI b - ((nI b / nI (a % b)) * nI (a % b)))) = _
          have hr2 : b % (a % b) < a % b := Nat.mod_lt _ hr0
          rw [if_neg (nI_ne0 hr0 (by omega)), nI_rem hb31 hr0 (by omega), gcd_step b (a % b) (by omega)]
          exact ih f _ _ (half_mod (by omega) hr hb) (by omega) (by omega) (by omega)
set_option maxRecDepth 100000 in
theorem weight_eq {q s : Nat} (hq : q < 11) (hs : s < 64) : f_X6_weight (nI s) (nI q) = x_X7_stays_64 (nI q) s ∧ 0 ≤ (x_X7_stays_64 (nI q) s).toInt ∧ (x_X7_stays_64 (nI q) s).toInt ≤ 1000000 := by
  have key : ∀ (q : Fin 11) (s : Fin 64), f_X6_weight (nI s.1) (nI q.1) = x_X7_stays_64 (nI q.1) s.1 ∧ 0 ≤ (x_X7_stays_64 (nI q.1) s.1).toInt ∧ (x_X7_stays_64 (nI q.1) s.1).toInt ≤ 1000000 := by decide +kernel
  exact key ⟨q, hq⟩ ⟨s, hs⟩
theorem rl_stays : Rl_stays := by
  intro lat und kpl len ncl spe sru sbe sen lets wrds nums tb tp tr knd sec brd rms std sn ss sb sp past kept w told read isK undoes text texted seen seS seB seP at_ start clauses number word a1 a2 a3 a4 hR
  have hR0 := hR
  obtain ⟨B, P, R, hT, hX, hS, hN, hU, hK⟩ := hR
  obtain ⟨e0, e1, e2, b1, b2, b3, b4⟩ := hT.B
  obtain ⟨t0, t1, t2⟩ := hT.t
  have hbad : ∀ x : Int32, f_X6_stays tb tp tr knd sec rms std a1 a2 a3 a4 = x → f_X7_stays w told a1 a2 a3 a4 = (x, w) → (f_X6_stays tb tp tr knd sec rms std a1 a2 a3 a4 = (f_X7_stays w told a1 a2 a3 a4).1 ∧ Rel lat und kpl len lets tb tp tr knd sec brd rms std sn ss sb sp past kept (f_X7_stays w told a1 a2 a3 a4).2 told isK undoes text texted seen seS seB seP) := by
    intro x e6 e7
    rw [e6, e7]; exact ⟨rfl, hR0⟩
  subst e0; subst e1
  rcases barber_cases b2 t0 a1 with ⟨b, hb, rfl, g6, g7⟩ | ⟨g6, g7⟩
  · rcases person_cases b3 t1 a2 with ⟨p, hp, rfl, h6, h7⟩ | ⟨h6, h7⟩
    · by_cases c : 0 ≤ a3.toInt ∧ a3.toInt < 11
      · obtain ⟨q, hq, rfl⟩ := of_in (n := 11) (by omega) c
        have q6a : ¬ (10 : Int32) < nI q := fun z => absurd ((nI_ltI (a := 10) (by omega) (by omega)).mp z) (by omega)
        have q7a : ¬ f_X7_in (nI q).toInt64 0 10 = 0 := in7n (n := 0) (lo := 0) (hi := 10) (by omega) (by omega) 0 10 rfl rfl
        by_cases c4 : 0 ≤ a4.toInt ∧ a4.toInt < 2
        · have q6b : ¬ a4 < 0 := by
            rw [Int32.lt_iff_toInt_lt]
            show ¬ a4.toInt < 0
            omega
          have q6c : a4 ≤ 1 := by
            rw [Int32.le_iff_toInt_le]
            show a4.toInt ≤ 1
            omega
          have q7b : ¬ f_X7_in a4.toInt64 0 1 = 0 := by
            rw [in7, if_pos (show (0 : Int64).toInt ≤ a4.toInt ∧ a4.toInt ≤ (1 : Int64).toInt from ⟨by show (0 : Int) ≤ _; omega, by show _ ≤ (1 : Int); omega⟩)]
            decide
          have hb4 : b < 4 := by omega
          have h := lp_ind2 (f := fun iz z => nx_X6_stays_63 tr knd sec rms std (nI b) (nI p) (nI q) iz z) (g := fun iz z => nx_X7_stays_51 told (nI b) (nI p) (nI q) iz z.1 z.2) (a := (0 : Int32)) (b := ((0 : Int32), w)) (fun i z y => z = y.1 ∧ (∃ u, u ≤ i * 1000000 ∧ z = nI u) ∧ ∀ j, (j < 255 ∨ 340 ≤ j) → y.2 j = w j) 64 ⟨rfl, ⟨0, by omega, rfl⟩, fun _ _ => rfl⟩ (fun i z y hi ih => ?_)
          · have e6 : f_X6_stays (nI B) (nI P) tr knd sec rms std (nI b) (nI p) (nI q) a4 = v_X6_stays_128_0 tr knd sec rms std (nI b) (nI p) (nI q) a4 := by
              unfold f_X6_stays
              rw [g6, if_neg i10, h6, if_neg i10, if_neg (nI_pos (by omega)), if_neg q6a, if_neg q6b, if_pos q6c]
            have hup : x_X6_stays_63 tr knd sec rms std (nI b) (nI p) (nI q) = (x_X7_stays_51 w told (nI b) (nI p) (nI q)).1 := h.1
            obtain ⟨u, hu, eu⟩ : ∃ u, u ≤ 64 * 1000000 ∧ x_X6_stays_63 tr knd sec rms std (nI b) (nI p) (nI q) = nI u := h.2.1
            have e7 : f_X7_stays w told (nI b) (nI p) (nI q) a4 = lo_X7_stays_149 w told (nI b) (nI p) (nI q) a4 ((((1000000 : Int32).toInt).natAbs) + 1) ((x_X7_stays_51 w told (nI b) (nI p) (nI q)).1) 1000000 := by
              unfold f_X7_stays
              rw [g7, if_neg i10, h7, if_neg i10, if_neg q7a, if_neg q7b]
            have hfuel : (((1000000 : Int32).toInt).natAbs) + 1 = 1000001 := by decide +kernel
            have e7' := st_gcd w told (nI b) (nI p) (nI q) a4 20 1000001 u 1000000 (by decide) (by decide) (by omega) (by decide)
            rw [show nI 1000000 = (1000000 : Int32) from rfl] at e7'
            rw [hfuel, ← hup, eu, e7'] at e7
            have hpw : f_X6_power 10 6 = nI 1000000 := by decide +kernel
            have hcd : f_X6_commonDivisor (nI u) (nI 1000000) = nI (Nat.gcd u 1000000) := cd_gcd 20 64 u 1000000 0 (by decide) (by decide) (by omega) (by decide)
            have hg1 : 0 < Nat.gcd u 1000000 := Nat.gcd_pos_of_pos_right _ (by decide)
            have hg2 : Nat.gcd u 1000000 ≤ 1000000 := Nat.le_of_dvd (by decide) (Nat.gcd_dvd_right _ _)
            have hmax : (if (1 : Int32) < nI (Nat.gcd u 1000000) then nI (Nat.gcd u 1000000) else 1) = nI (Nat.gcd u 1000000) := by
              by_cases q1 : 1 < Nat.gcd u 1000000
              · rw [if_pos (show (1 : Int32) < _ from (nI_ltI (a := 1) (by omega) (by omega)).mpr q1)]
              · rw [if_neg (show ¬ (1 : Int32) < _ from fun z => q1 ((nI_ltI (a := 1) (by omega) (by omega)).mp z)), show Nat.gcd u 1000000 = 1 by omega]; rfl
            have e6' : v_X6_stays_128_0 tr knd sec rms std (nI b) (nI p) (nI q) a4 = if a4 = 0 then nI u / nI (Nat.gcd u 1000000) else nI 1000000 / nI (Nat.gcd u 1000000) := by
              unfold v_X6_stays_128_0
              rw [eu, hpw, hcd, hmax]
            obtain ⟨n1, n2, n3⟩ := tail_w b3 hN hU hK (w' := (x_X7_stays_51 w told (nI b) (nI p) (nI q)).2) h.2.2
            have hup2 : (x_X7_stays_51 w told (nI b) (nI p) (nI q)).1 = nI u := hup.symm.trans eu
            rw [hup2] at e7
            rw [e6, e6', e7]
            by_cases q4 : a4 = 0
            · rw [if_pos q4, if_pos q4]
              exact ⟨rfl, B, P, R, hT, hX, hS, n1, n2, n3⟩
            · rw [if_neg q4, if_neg q4]
              exact ⟨rfl, B, P, R, hT, hX, hS, n1, n2, n3⟩
          · obtain ⟨x', v⟩ := y
            obtain ⟨r1, ⟨u, hu, eu⟩, r3⟩ := ih
            dsimp only at r1 r3
            subst r1
            subst eu
            obtain ⟨k1, k2⟩ := set_eq hT hN hp hb4 hi (y := v) (fun j hj => r3 j (by omega))
            obtain ⟨w1, w2, w3⟩ := weight_eq hq hi
            show v_X6_stays_84_0 tr knd sec rms std (nI b) (nI p) (nI q) i (nI u) = nI u + v_X7_stays_123_0 told (nI b) (nI p) (nI q) i v ∧ (∃ u', u' ≤ (i + 1) * 1000000 ∧ v_X6_stays_84_0 tr knd sec rms std (nI b) (nI p) (nI q) i (nI u) = nI u') ∧ ∀ j, (j < 255 ∨ 340 ≤ j) → f_X7_triesSet v told (nI b) (nI p) (nI i) j = w j
            have hw' : ∀ j, (j < 255 ∨ 340 ≤ j) → f_X7_triesSet v told (nI b) (nI p) (nI i) j = w j := fun j hj => (k1 j hj).trans (r3 j hj)
            unfold v_X6_stays_84_0 v_X7_stays_123_0
            rw [k2, w1]
            by_cases q2 : f_X7_many (f_X7_fitsOf (f_X7_triesSet v told (nI b) (nI p) (nI i)) told 255 (nI b) (nI p)) < 2
            · rw [if_pos q2, if_pos q2, Int32.add_zero]
              refine ⟨rfl, ?_, hw'⟩
              exact ⟨u, Nat.le_trans hu (Nat.mul_le_mul_right 1000000 (Nat.le_succ i)), rfl⟩
            · rw [if_neg q2, if_neg q2]
              have ew : x_X7_stays_64 (nI q) i = nI (x_X7_stays_64 (nI q) i).toInt.toNat := by
                refine Int32.toInt_inj.mp ?_
                rw [nI_toInt (by omega)]
                omega
              refine ⟨rfl, ⟨u + (x_X7_stays_64 (nI q) i).toInt.toNat, by omega, ?_⟩, hw'⟩
              rw [← nI_add, ← ew]
        · refine hbad (-3) ?_ ?_
          · unfold f_X6_stays
            rw [g6, if_neg i10, h6, if_neg i10, if_neg (nI_pos (by omega)), if_neg q6a]
            by_cases h : a4 < 0
            · rw [if_pos h]
            · rw [if_neg h, if_neg (fun z => ?_)]
              rw [Int32.le_iff_toInt_le] at z
              rw [Int32.lt_iff_toInt_lt] at h
              have z1 : a4.toInt ≤ 1 := z
              have h1 : ¬ a4.toInt < 0 := h
              omega
          · unfold f_X7_stays
            rw [g7, if_neg i10, h7, if_neg i10, if_neg q7a, in7, if_pos (if_neg (fun z => ?_))]
            have z1 : (0 : Int) ≤ a4.toInt := z.1
            have z2 : a4.toInt ≤ (1 : Int) := z.2
            omega
      · refine hbad (-3) ?_ ?_
        · unfold f_X6_stays
          rw [g6, if_neg i10, h6, if_neg i10]
          by_cases h : a3 < 0
          · rw [if_pos h]
          · rw [if_neg h, if_pos ?_]
            rw [Int32.lt_iff_toInt_lt]
            rw [Int32.lt_iff_toInt_lt] at h
            have h1 : ¬ a3.toInt < 0 := h
            show (10 : Int) < a3.toInt
            omega
        · unfold f_X7_stays
          rw [g7, if_neg i10, h7, if_neg i10, in7, if_pos (if_neg (fun z => ?_))]
          have z1 : (0 : Int) ≤ a3.toInt := z.1
          have z2 : a3.toInt ≤ (10 : Int) := z.2
          omega
    · refine hbad (-2) ?_ ?_
      · unfold f_X6_stays; rw [g6, if_neg i10, if_pos h6]
      · unfold f_X7_stays; rw [g7, if_neg i10, if_pos h7]
  · refine hbad (-2) ?_ ?_
    · unfold f_X6_stays; rw [if_pos g6]
    · unfold f_X7_stays; rw [if_pos g7]
