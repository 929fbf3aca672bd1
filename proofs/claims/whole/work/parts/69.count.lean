theorem lp_ext {α : Type} {f : Nat → α → α} {a : α} {n m : Nat} (h : n ≤ m) (hid : ∀ i z, n ≤ i → i < m → f i z = z) : lp f a m = lp f a n := by
  have key : ∀ k, n + k ≤ m → lp f a (n + k) = lp f a n := by
    intro k
    induction k with
    | zero => exact fun _ => rfl
    | succ k ih => exact fun h => (hid (n + k) _ (by omega) (by omega)).trans (ih (by omega))
  have e := key (m - n) (by omega)
  rw [show n + (m - n) = m by omega] at e
  exact e
theorem lp_add {α : Type} (f : Nat → α → α) (a : α) (n m : Nat) : lp f a (n + m) = lp (fun i z => f (n + i) z) (lp f a n) m := by
  induction m with
  | zero => rfl
  | succ m ih =>
    show f (n + m) (lp f a (n + m)) = f (n + m) _
    rw [ih]
theorem rl_count : Rl_count := by
  intro lat und kpl len ncl spe sru sbe sen lets wrds nums tb tp tr knd sec brd rms std sn ss sb sp past kept w told read isK undoes text texted seen seS seB seP at_ start clauses number word a1 hR
  refine ⟨?_, hR⟩
  obtain ⟨B, P, R, hT, ⟨n, hn, x1, x2, hx⟩, ⟨ns, hns, s1, s2, hs⟩, hN, ⟨nu, L, hnu, hL, u1, u2, u3, hu⟩, hK⟩ := hR
  obtain ⟨e0, e1, e2, b1, b2, b3, b4⟩ := hT.B
  obtain ⟨t0, t1, t2⟩ := hT.t
  subst e0; subst e1
  have c3 : f_X4_date std = w 0 := by
    unfold f_X4_date
    rw [show f_X0_at 85 std 0 = std 0 from at_in (j := 0) (by omega) (by omega), hN.1]
  have c4 : f_X6_allBeards (nI P) std = f_X7_beardsOfAll w told := by
    unfold f_X6_allBeards x_X6_allBeards_4 f_X7_beardsOfAll x_X7_beardsOfAll_4
    rw [t1, cl (by omega)]
    refine lp_congr P (fun i z hi => ?_)
    show z + f_X4_beardsOf std (nI i) = z + f_X7_beardsOf w (nI i)
    rw [beardsOf_eq hN b3 hi]
  have c5 : f_X6_allStripsKnown (nI B) (nI P) std = f_X7_knownOfAll w := by
    have hz : ∀ b p, b < 4 → p < 6 → ¬ (b < B ∧ p < P) → ∀ z : Int32, z + f_J6_bitCount_0f7a4 (f_X4_stripsKnown std (nI b) (nI p)) = z := by
      intro b p hb hp hn z
      rw [known_at hb hp, hN.known hb hp, hN.2.2.2.2 b p hb hp hn]
      exact Int32.add_zero z
    unfold f_X6_allStripsKnown x_X6_allStripsKnown_4
    rw [cl (by omega)]
    have ein : ∀ b z, b < 4 → x_X6_allStripsKnown_17 (nI P) std b z = lp (fun i z => z + f_J6_bitCount_0f7a4 (f_X4_stripsKnown std (nI b) (nI i))) z 6 := by
      intro b z hb
      unfold x_X6_allStripsKnown_17
      rw [cl (by omega)]
      exact (lp_ext b3 (fun i z h1 h2 => hz b i hb h2 (fun h => absurd h.2 (by omega)) z)).symm
    have eout : lp (fun iz z => nx_X6_allStripsKnown_4 (nI P) std iz z) 0 B = lp (fun iz z => lp (fun i z => z + f_J6_bitCount_0f7a4 (f_X4_stripsKnown std (nI iz) (nI i))) z 6) 0 4 := by
      rw [lp_ext b2 (fun i z h1 h2 => ?_)]
      · refine lp_congr B (fun i z hi => ein i z (by omega))
      · exact lp_ind (fun k y => y = z) 6 rfl (fun k y hk e => by rw [e]; exact hz i k h2 hk (fun h => absurd h.1 (by omega)) z)
    rw [eout]
    unfold f_X7_knownOfAll x_X7_knownOfAll_4
    have h := lp_ind (f := fun iz z => lp (fun i z => z + f_J6_bitCount_0f7a4 (f_X4_stripsKnown std (nI iz) (nI i))) z 6) (a := (0 : Int32)) (fun b z => z = lp (fun iz z => nx_X7_knownOfAll_4 w iz z) 0 (6 * b)) 4 rfl (fun b z hb e => by
      rw [e, show 6 * (b + 1) = 6 * b + 6 by omega, lp_add]
      refine lp_congr 6 (fun i y hi => ?_)
      show y + f_J6_bitCount_0f7a4 (f_X4_stripsKnown std (nI b) (nI i)) = y + f_X7_ones (w ((37 + nI (6 * b + i)).toNatClampNeg))
      rw [known_at hb hi, hN.known hb hi, show (37 : Int32) + nI (6 * b + i) = nI (37 + (6 * b + i)) from nI_add 37 _, cl (by omega), cnt_ones (hN.kkb hb hi)])
    exact h
  unfold f_X6_count f_X7_count
  rw [t0, t1, t2, c3, c4, c5, s1, s2, u2, u3, x1, x2, e2]
theorem rl_was : Rl_was := by
  intro lat und kpl len ncl spe sru sbe sen lets wrds nums tb tp tr knd sec brd rms std sn ss sb sp past kept w told read isK undoes text texted seen seS seB seP at_ start clauses number word hR
  refine ⟨?_, hR⟩
  obtain ⟨B, P, R, hT, hX, ⟨ns, hns, s1, s2, hs⟩, hN, hU, hK⟩ := hR
  obtain ⟨e0, e1, e2, b1, b2, b3, b4⟩ := hT.B
  obtain ⟨t0, t1, t2⟩ := hT.t
  subst e1; subst s1; subst s2
  unfold f_X6_was x_X6_was_4 f_X7_was x_X7_was_4
  rw [t1, cl (by omega)]
  refine lp_congr P (fun i z hi => ?_)
  have ha : f_X3_allTrueOf (nI ns) ss sb sp knd sec (nI i) = x_X7_was_19 told (nI ns) seS seB seP i := by
    unfold f_X3_allTrueOf x_X7_was_19
    rw [cl (by omega)]
    have hg0 : ∀ k j, lp (fun iz z => nx_X7_was_19 told seS seB seP i iz z) 1 j = 0 → lp (fun iz z => nx_X7_was_19 told seS seB seP i iz z) 1 (j + k) = 0 := by
      intro k j h
      induction k with
      | zero => exact h
      | succ k ih =>
        show v_X7_was_29_0 told seS seB seP i (j + k) (lp _ 1 (j + k)) = 0
        unfold v_X7_was_29_0
        rw [if_pos ih]
    have hg : ∀ k j, j + k ≤ ns → lp (fun iz z => nx_X7_was_19 told seS seB seP i iz z) 1 j = 1 → lo_X3_allTrueOf_2 ss sb sp knd sec (nI i) k j = lp (fun iz z => nx_X7_was_19 told seS seB seP i iz z) 1 (j + k) := by
      intro k
      induction k with
      | zero => exact fun j _ h => h.symm
      | succ k ih =>
        intro j hj h
        obtain ⟨q1, q2, q3⟩ := hs j (by omega)
        have estep : lp (fun iz z => nx_X7_was_19 told seS seB seP i iz z) 1 (j + 1) = if f_X7_tells told (nI i) (seS j) (seB j) = seP j then 1 else 0 := by
          show v_X7_was_29_0 told seS seB seP i j (lp _ 1 j) = _
          unfold v_X7_was_29_0
          rw [if_neg (by rw [h]; exact i10), cl (by omega)]
        show (if f_X5_wouldTell knd sec (nI i) (f_X0_at 6 ss (nI j)) (f_X0_at 6 sb (nI j)) = f_X0_at 6 sp (nI j) then lo_X3_allTrueOf_2 ss sb sp knd sec (nI i) k (j + 1) else 0) = _
        rw [at_in (by omega) (by omega), at_in (by omega) (by omega), at_in (by omega) (by omega), q1, q2, q3, wouldTell_eq hT hi]
        by_cases c : f_X7_tells told (nI i) (seS j) (seB j) = seP j
        · rw [if_pos c] at estep
          rw [if_pos c, ih (j + 1) (by omega) estep, show j + (k + 1) = j + 1 + k by omega]
        · rw [if_neg c] at estep
          rw [if_neg c, show j + (k + 1) = j + 1 + k by omega, hg0 k (j + 1) estep]
    rw [hg ns 0 (by omega) rfl, Nat.zero_add]
  show v_X6_was_27_0 knd sec (nI ns) ss sb sp i z = z ||| v_X7_was_75_0 told (nI ns) seS seB seP i
  unfold v_X6_was_27_0 v_X7_was_75_0
  rw [ha]
  by_cases c : x_X7_was_19 told (nI ns) seS seB seP i = 0
  · rw [if_pos c, if_pos c, Int32.or_zero]
  · rw [if_neg c, if_neg c]
theorem max_le (a d : Int32) : (if a < d then d else a) = (if a ≤ d then d else a) := by
  by_cases c : a < d
  · rw [if_pos c, if_pos (Int32.le_of_lt c)]
  · by_cases c2 : a ≤ d
    · rw [if_neg c, if_pos c2]
      rw [Int32.lt_iff_toInt_lt] at c
      rw [Int32.le_iff_toInt_le] at c2
      exact Int32.toInt_inj.mp (by omega)
    · rw [if_neg c, if_neg c2]
theorem rl_next : Rl_next := by
  intro lat und kpl len ncl spe sru sbe sen lets wrds nums tb tp tr knd sec brd rms std sn ss sb sp past kept w told read isK undoes text texted seen seS seB seP at_ start clauses number word a1 a2 hR
  refine ⟨?_, hR⟩
  obtain ⟨B, P, R, hT, -, -, hN, -⟩ := hR
  have hT0 := hT
  obtain ⟨e0, e1, e2, b1, b2, b3, b4⟩ := hT.B
  obtain ⟨t0, t1, t2⟩ := hT.t
  subst e0; subst e1
  unfold f_X6_next f_X7_next
  rcases barber_cases b2 t0 a1 with ⟨b, hb, rfl, g6, g7⟩ | ⟨g6, g7⟩
  · rw [g6, g7, if_neg i10, if_neg i10]
    rcases person_cases b3 t1 a2 with ⟨p, hp, rfl, h6, h7⟩ | ⟨h6, h7⟩
    · rw [h6, h7, if_neg i10, if_neg i10]
      have hb4 : b < 4 := by omega
      have hp6 : p < 6 := by omega
      have ef := fitsOf_at (told := told) (w := w) hb4 hp6 0 (by omega)
      rw [Nat.zero_add, Nat.zero_add] at ef
      have ef : f_X7_fitsOf w told 0 (nI b) (nI p) = f_X7_fitsBy told (w (37 + (6 * b + p))) (w (61 + (6 * b + p))) := ef
      have e6 : f_X5_fitting tr rms (f_X4_stripsKnown std (nI b) (nI p)) (f_X4_partsKnown std (nI b) (nI p)) = f_X7_fitsOf w told 0 (nI b) (nI p) := by
        rw [known_at hb4 hp6, parts_at hb4 hp6, hN.known hb4 hp6, hN.parts hb4 hp6, fits_eq hT0 (hN.within hb4 hp6), ef]
      have hfk : kb (f_X7_fitsOf w told 0 (nI b) (nI p)) 0 256 := by rw [ef]; exact fits_kb b4 t2 _ _
      by_cases c : f_X7_fitsOf w told 0 (nI b) (nI p) = 0
      · rw [e6, if_pos c]
        unfold x_X7_next_53
        show (-1 : Int32) = (if f_X7_fitsOf w told 0 (nI b) (nI p) = 0 then ((-1 : Int32), (9 : Int32)) else _).1
        rw [if_pos c]
      · rw [e6, if_neg c]
        have ea : ∀ i, i < 6 → f_X5_mostAlike tr rms (f_X7_fitsOf w told 0 (nI b) (nI p)) (nI i) = v_X7_next_133_0 w told (nI b) (nI p) i := by
          intro i hi
          unfold f_X5_mostAlike v_X7_next_133_0
          have el : x_X5_mostAlike_5 tr rms (f_X7_fitsOf w told 0 (nI b) (nI p)) (nI i) = x_X7_next_70 w told (nI b) (nI p) i := by
            unfold x_X5_mostAlike_5 x_X7_next_70
            rw [e2, t2, cl (by omega)]
            refine lp_congr R (fun k z hk => ?_)
            show v_X5_mostAlike_20_0 rms (f_X7_fitsOf w told 0 (nI b) (nI p)) (nI i) k z = z + v_X7_next_89_0 w told (nI b) (nI p) i k
            unfold v_X5_mostAlike_20_0 v_X7_next_89_0 f_X5_rumourNumber
            rw [at_in (by omega) (by omega), am51 k (by omega), (hT0.2.2.2.2.2 k hk).1, has67, has67]
            by_cases q1 : f_X6_has (f_X7_fitsOf w told 0 (nI b) (nI p)) (nI k) = 0
            · rw [if_pos q1, if_pos q1, Int32.add_zero]
            · rw [if_neg q1, if_neg q1]
              by_cases q2 : f_X6_has (told (51 + k)) (nI i) = 0
              · rw [if_pos q2, if_pos q2, Int32.add_zero]
              · rw [if_neg q2, if_neg q2]
          rw [el, cnt_many hfk, max_le]
        have elo : ∀ k i x5 x6, (x5, x6) = lp (fun iz z => nx_X6_next_65 tr rms std (nI b) (nI p) iz z.1 z.2) ((-1), 9) i → i + k ≤ 6 → lo_X7_next_53 w told (nI b) (nI p) k i x5 x6 = lp (fun iz z => nx_X6_next_65 tr rms std (nI b) (nI p) iz z.1 z.2) ((-1), 9) (i + k) := by
          intro k
          induction k with
          | zero => exact fun i x5 x6 h _ => h
          | succ k ih =>
            intro i x5 x6 h hk
            show (if f_X7_fitsOf w told 0 (nI b) (nI p) = 0 then (x5, x6) else lo_X7_next_53 w told (nI b) (nI p) k (i + 1) (v_X7_next_176_0 w told (nI b) (nI p) i x5 x6) (v_X7_next_190_0 w told (nI b) (nI p) i x6)) = _
            rw [if_neg c, ih (i + 1) _ _ ?_ (by omega), show i + (k + 1) = i + 1 + k by omega]
            show _ = nx_X6_next_65 tr rms std (nI b) (nI p) i (lp _ ((-1), 9) i).1 (lp _ ((-1), 9) i).2
            rw [← h]
            show _ = (v_X6_next_91_0 tr rms std (nI b) (nI p) i x5 x6, v_X6_next_91_1 tr rms std (nI b) (nI p) i x6)
            unfold v_X6_next_91_0 v_X6_next_91_1 v_X7_next_176_0 v_X7_next_190_0 v_X7_next_157_0
            rw [e6, ea i (by omega), known_at hb4 hp6, hN.known hb4 hp6, amK1, cl (by omega), has67]
            by_cases q1 : f_X6_has (w (37 + (6 * b + p))) (nI i) = 0
            · rw [if_pos q1, if_pos q1, if_pos q1]
              by_cases q2 : x6 ≤ v_X7_next_133_0 w told (nI b) (nI p) i
              · rw [if_pos q2, if_pos q2, if_pos q2, if_pos rfl, if_pos rfl]
              · rw [if_neg q2, if_neg q2, if_neg q2, if_neg i10, if_neg i10]
            · rw [if_neg q1, if_neg q1, if_neg q1, if_pos rfl, if_pos rfl]
        unfold x_X7_next_53
        rw [elo 6 0 (-1) 9 rfl (by omega)]
        rfl
    · rw [if_pos h6, if_pos h7]
  · rw [if_pos g6, if_pos g7]
