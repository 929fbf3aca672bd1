theorem capinc {n m : Nat} (h : n < m) (hm : m < 2000) : (if (nI n + 1) < nI m then (nI n + 1) else nI m) = nI (n + 1) := by
  rw [nI_1]
  by_cases c : n + 1 < m
  · rw [if_pos ((nI_ltI (by omega) (by omega)).mpr c)]
  · rw [if_neg (fun z => c ((nI_ltI (by omega) (by omega)).mp z)), show n + 1 = m by omega]
set_option maxHeartbeats 1000000 in
theorem rl_init : RelInit := by
  refine ⟨2, 0, 0, ⟨⟨rfl, rfl, rfl, by omega, by omega, by omega, by omega⟩, ⟨rfl, rfl, rfl⟩, fun p h => absurd h (by omega), fun p k h => absurd h (by omega), fun p k _ _ _ => rfl, fun r h => absurd h (by omega)⟩, ⟨0, by omega, rfl, rfl, fun i h => absurd h (by omega)⟩, ⟨0, by omega, rfl, rfl, fun i h => absurd h (by omega)⟩, ⟨rfl, ⟨0, by omega, by omega, rfl⟩, fun p k h => absurd h (by omega), fun j _ => ⟨rfl, rfl, ⟨0, by omega, by omega, rfl⟩, Int32.and_zero⟩, fun _ _ _ _ _ => rfl⟩, ⟨0, 0, by omega, by omega, rfl, rfl, rfl, fun d h => absurd h (by omega)⟩, ⟨0, 0, by omega, by omega, rfl, rfl, rfl, fun k _ h => absurd rfl h⟩⟩
theorem rl_ask : RelAsk := by
  intro lat und kpl len ncl spe sru sbe sen lets wrds nums tb tp tr knd sec brd rms std sn ss sb sp past kept w told read isK undoes text texted seen seS seB seP at_ start clauses number word hR
  obtain ⟨B, P, R, ⟨⟨-, -, -, h1, h2, h3, h4⟩, ⟨t0, t1, t2⟩, -⟩, ⟨n, hn, -, e2, -⟩, ⟨k, hk, -, e3, -⟩, -, ⟨u, L, hu, -, -, -, e4, -⟩, -⟩ := hR
  exact ⟨⟨n, by omega, by omega, e2⟩, ⟨P, by omega, by omega, t1⟩, ⟨R, by omega, by omega, t2⟩, ⟨B, by omega, by omega, t0⟩, ⟨u, by omega, by omega, e4⟩, ⟨k, by omega, by omega, e3⟩⟩
theorem rl_write : Rl_write := by
  intro lat und kpl len ncl spe sru sbe sen lets wrds nums tb tp tr knd sec brd rms std sn ss sb sp past kept w told read isK undoes text texted seen seS seB seP at_ start clauses number word a1 hR
  obtain ⟨B, P, R, hT, ⟨n, hn, e1, e2, hx⟩, hS, hN, hU, hK⟩ := hR
  subst e1; subst e2
  by_cases c : 0 ≤ a1.toInt ∧ a1.toInt < 256
  · obtain ⟨a, ha, rfl⟩ := of_in (n := 256) (by omega) c
    by_cases c2 : n = 160
    · subst c2
      have e6 : f_X6_write (nI 160) lets (nI a) = (-5, nI 160, lets) := by
        unfold f_X6_write
        rw [if_neg (nI_pos (by omega)), if_pos (show nI a ≤ (255 : Int32) from (nI_leI (b := 255) (by omega) (by omega)).mpr (by omega)), if_neg (by decide)]
      have e7 : f_X7_write text (nI 160) (nI a) = (-5, text, nI 160) := by
        unfold f_X7_write
        rw [in7, if_neg (by rw [if_pos (by rw [nI_toInt (by omega)]; exact ⟨by show (0 : Int) ≤ _; omega, by show _ ≤ (255 : Int); omega⟩)]; decide), if_pos (show nI 160 = (160 : Int32) from rfl)]
      rw [e6, e7]
      exact ⟨rfl, B, P, R, hT, ⟨160, hn, rfl, rfl, hx⟩, hS, hN, hU, hK⟩
    · have e6 : f_X6_write (nI n) lets (nI a) = (nI (n + 1), nI (n + 1), upd lets n (nI a)) := by
        unfold f_X6_write f_X1_addLetter
        rw [if_neg (nI_pos (by omega)), if_pos (show nI a ≤ (255 : Int32) from (nI_leI (b := 255) (by omega) (by omega)).mpr (by omega)), if_pos (show nI n < (160 : Int32) from (nI_ltI (b := 160) (by omega) (by omega)).mpr (by omega))]
        have e : (if (nI n + 1) < 160 then (nI n + 1) else (160 : Int32)) = nI (n + 1) := capinc (m := 160) (by omega) (by omega)
        rw [e, put_in (by omega) (by omega)]
      have e7 : f_X7_write text (nI n) (nI a) = (nI (n + 1), upd text n (nI a), nI (n + 1)) := by
        unfold f_X7_write
        rw [in7, if_neg (by rw [if_pos (by rw [nI_toInt (by omega)]; exact ⟨by show (0 : Int) ≤ _; omega, by show _ ≤ (255 : Int); omega⟩)]; decide), if_neg (show ¬ nI n = (160 : Int32) from fun z => c2 ((nI_eq (by omega) (by omega)).mp (show nI n = nI 160 from z))), nI_1, cl (by omega)]
      rw [e6, e7]
      refine ⟨rfl, B, P, R, hT, ⟨n + 1, by omega, rfl, rfl, fun i hi => ?_⟩, hS, hN, hU, hK⟩
      by_cases h : i = n
      · subst h
        dsimp only
        rw [us, us]
        exact ⟨rfl, a, by omega, ha, rfl⟩
      · dsimp only
        rw [un h, un h]
        exact hx i (by omega)
  · have e6 : f_X6_write (nI n) lets a1 = (-3, nI n, lets) := by
      unfold f_X6_write
      by_cases h : a1 < 0
      · rw [if_pos h]
      · rw [if_neg h, if_neg (fun z => ?_)]
        rw [Int32.le_iff_toInt_le] at z
        rw [Int32.lt_iff_toInt_lt] at h
        have z1 : a1.toInt ≤ 255 := z
        have h1 : ¬ a1.toInt < 0 := h
        omega
    have e7 : f_X7_write text (nI n) a1 = (-3, text, nI n) := by
      unfold f_X7_write
      rw [in7, if_pos (if_neg (fun z => ?_))]
      have z1 : (0 : Int) ≤ a1.toInt := z.1
      have z2 : a1.toInt ≤ (255 : Int) := z.2
      omega
    rw [e6, e7]
    exact ⟨rfl, B, P, R, hT, ⟨n, hn, rfl, rfl, hx⟩, hS, hN, hU, hK⟩
theorem rl_erase : Rl_erase := by
  intro lat und kpl len ncl spe sru sbe sen lets wrds nums tb tp tr knd sec brd rms std sn ss sb sp past kept w told read isK undoes text texted seen seS seB seP at_ start clauses number word hR
  obtain ⟨B, P, R, hT, ⟨n, hn, e1, e2, hx⟩, hS, hN, hU, hK⟩ := hR
  exact ⟨e1.trans e2.symm, B, P, R, hT, ⟨0, by omega, rfl, rfl, fun i h => absurd h (by omega)⟩, hS, hN, hU, hK⟩
theorem rl_forget : Rl_forget := by
  intro lat und kpl len ncl spe sru sbe sen lets wrds nums tb tp tr knd sec brd rms std sn ss sb sp past kept w told read isK undoes text texted seen seS seB seP at_ start clauses number word hR
  obtain ⟨B, P, R, hT, hX, ⟨n, hn, e1, e2, hs⟩, hN, hU, hK⟩ := hR
  exact ⟨e1.trans e2.symm, B, P, R, hT, hX, ⟨0, by omega, rfl, rfl, fun i h => absurd h (by omega)⟩, hN, hU, hK⟩
theorem rl_seen : Rl_seen := by
  intro lat und kpl len ncl spe sru sbe sen lets wrds nums tb tp tr knd sec brd rms std sn ss sb sp past kept w told read isK undoes text texted seen seS seB seP at_ start clauses number word a1 a2 a3 hR
  have hR0 := hR
  obtain ⟨B, P, R, hT, hX, ⟨n, hn, e1, e2, hs⟩, hN, hU, hK⟩ := hR
  subst e1; subst e2
  have hsame : ∀ x : Int32, f_X6_seen (nI n) ss sb sp a1 a2 a3 = (x, nI n, ss, sb, sp) → f_X7_seen (nI n) seS seB seP a1 a2 a3 = (x, nI n, seS, seB, seP) → ((f_X6_seen (nI n) ss sb sp a1 a2 a3).1 = (f_X7_seen (nI n) seS seB seP a1 a2 a3).1 ∧ Rel lat und kpl len lets tb tp tr knd sec brd rms std ((f_X6_seen (nI n) ss sb sp a1 a2 a3).2.1) ((f_X6_seen (nI n) ss sb sp a1 a2 a3).2.2.1) ((f_X6_seen (nI n) ss sb sp a1 a2 a3).2.2.2.1) ((f_X6_seen (nI n) ss sb sp a1 a2 a3).2.2.2.2) past kept w told isK undoes text texted ((f_X7_seen (nI n) seS seB seP a1 a2 a3).2.1) ((f_X7_seen (nI n) seS seB seP a1 a2 a3).2.2.1) ((f_X7_seen (nI n) seS seB seP a1 a2 a3).2.2.2.1) ((f_X7_seen (nI n) seS seB seP a1 a2 a3).2.2.2.2)) := by
    intro x e6 e7
    rw [e6, e7]
    exact ⟨rfl, hR0⟩
  rcases strip_cases a1 with ⟨k, hk, rfl, g6, g7⟩ | ⟨g6, g7⟩
  · by_cases c : 0 ≤ a2.toInt ∧ a2.toInt < 10
    · obtain ⟨a, ha, rfl⟩ := of_in (n := 10) (by omega) c
      have q1 : ¬ nI a < 0 := nI_pos (by omega)
      have q2 : nI a ≤ 9 := (nI_leI (b := 9) (by omega) (by omega)).mpr (by omega)
      have q3 : ¬ f_X7_in (nI a).toInt64 0 9 = 0 := by
        rw [in7, if_pos (by rw [nI_toInt (by omega)]; exact ⟨by show (0 : Int) ≤ _; omega, by show _ ≤ (9 : Int); omega⟩)]
        decide
      by_cases c3 : a3 = 0 ∨ a3 = 1 ∨ a3 = -1
      · have q4 : ¬ f_X7_in a3.toInt64 (-1) 1 = 0 := by
          rcases c3 with rfl | rfl | rfl <;> decide
        by_cases c2 : n = 6
        · subst c2
          refine hsame (-5) ?_ ?_
          · unfold f_X6_seen
            rw [g6, if_neg i10, if_neg q1, if_pos q2]
            have q5 : ¬ nI 6 < 6 := by decide
            rw [if_neg q5]
            rcases c3 with rfl | rfl | rfl <;> rfl
          · unfold f_X7_seen
            rw [g7, if_neg i10, if_neg q3, if_neg q4]
            rfl
        · have q5 : nI n < 6 := (nI_ltI (b := 6) (by omega) (by omega)).mpr (by omega)
          have e : (if (nI n + 1) < 6 then (nI n + 1) else (6 : Int32)) = nI (n + 1) := capinc (m := 6) (by omega) (by omega)
          have ea : f_X3_add (nI n) ss sb sp (nI k) (nI a) a3 = (nI (n + 1), upd ss n (nI k), upd sb n (nI a), upd sp n a3) := by
            unfold f_X3_add
            rw [e, put_in (by omega) (by omega), put_in (by omega) (by omega), put_in (by omega) (by omega)]
          have e6 : f_X6_seen (nI n) ss sb sp (nI k) (nI a) a3 = (nI (n + 1), nI (n + 1), upd ss n (nI k), upd sb n (nI a), upd sp n a3) := by
            unfold f_X6_seen
            rw [g6, if_neg i10, if_neg q1, if_pos q2, if_pos q5, ea]
            rcases c3 with rfl | rfl | rfl <;> rfl
          have e7 : f_X7_seen (nI n) seS seB seP (nI k) (nI a) a3 = (nI (n + 1), nI (n + 1), upd seS n (nI k), upd seB n (nI a), upd seP n a3) := by
            unfold f_X7_seen
            rw [g7, if_neg i10, if_neg q3, if_neg q4, if_neg (show ¬ nI n = (6 : Int32) from fun z => c2 ((nI_eq (by omega) (by omega)).mp (show nI n = nI 6 from z))), nI_1, cl (by omega)]
          rw [e6, e7]
          refine ⟨rfl, B, P, R, hT, hX, ⟨n + 1, by omega, rfl, rfl, fun i hi => ?_⟩, hN, hU, hK⟩
          dsimp only
          by_cases h : i = n
          · subst h
            rw [us, us, us, us, us, us]
            exact ⟨rfl, rfl, rfl⟩
          · rw [un h, un h, un h, un h, un h, un h]
            exact hs i (by omega)
      · refine hsame (-3) ?_ ?_
        · unfold f_X6_seen
          rw [g6, if_neg i10, if_neg q1, if_pos q2, if_neg (fun z => c3 (Or.inl z)), if_neg (fun z => c3 (Or.inr (Or.inl z))), if_neg (fun z => c3 (Or.inr (Or.inr z)))]
        · unfold f_X7_seen
          rw [g7, if_neg i10, if_neg q3, in7, if_pos (if_neg (fun z => ?_))]
          have z1 : (-1 : Int) ≤ a3.toInt := z.1
          have z2 : a3.toInt ≤ (1 : Int) := z.2
          refine c3 ?_
          rcases (show a3.toInt = 0 ∨ a3.toInt = 1 ∨ a3.toInt = -1 by omega) with h | h | h
          · exact Or.inl (Int32.toInt_inj.mp h)
          · exact Or.inr (Or.inl (Int32.toInt_inj.mp h))
          · exact Or.inr (Or.inr (Int32.toInt_inj.mp h))
    · refine hsame (-3) ?_ ?_
      · unfold f_X6_seen
        rw [g6, if_neg i10]
        by_cases h : a2 < 0
        · rw [if_pos h]
        · rw [if_neg h, if_neg (fun z => ?_)]
          rw [Int32.le_iff_toInt_le] at z
          rw [Int32.lt_iff_toInt_lt] at h
          have z1 : a2.toInt ≤ 9 := z
          have h1 : ¬ a2.toInt < 0 := h
          omega
      · unfold f_X7_seen
        rw [g7, if_neg i10, in7, if_pos (if_neg (fun z => ?_))]
        have z1 : (0 : Int) ≤ a2.toInt := z.1
        have z2 : a2.toInt ≤ (9 : Int) := z.2
        omega
  · refine hsame (-2) ?_ ?_
    · unfold f_X6_seen; rw [if_pos g6]
    · unfold f_X7_seen; rw [if_pos g7]
