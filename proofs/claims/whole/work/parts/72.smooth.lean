theorem tries_eq (y told : Nat → Int32) (b p set : Nat) (hs : set < 64) : f_X7_triesSet y told (nI b) (nI p) (nI set) = lp (stepT told p (fun i => bt (nI set) i) (fun _ => b)) (f_X7_copy y (nI 0) (nI 255)) 6 := by
  unfold f_X7_triesSet x_X7_triesSet_11
  refine lp_congr 6 (fun i z hi => ?_)
  show (if f_X7_has (nI set) (nI i) = 0 then z else (f_X7_shaves z told 255 (nI b) (nI p) (nI i)).2) = if bt (nI set) i = true then (f_X7_shaves z told (nI 255) (nI b) (nI p) (nI i)).2 else z
  rw [has7_bt _ i (by omega)]
  cases bt (nI set) i
  · rw [if_pos (by rfl), if_neg (by decide)]
  · rw [if_neg (by decide), if_pos rfl]; rfl
theorem set_eq {B P R : Nat} {tb tp tr : Int32} {knd sec brd rms told s w y : Nat → Int32} (hT : RT B P R tb tp tr knd sec brd rms told) (hN : SN B P s w) {p b set : Nat} (hp : p < P) (hb : b < 4) (hs : set < 64) (hy : ∀ j, j < 85 → y j = w j) :
    (∀ j, (j < 255 ∨ 340 ≤ j) → f_X7_triesSet y told (nI b) (nI p) (nI set) j = y j) ∧
    f_X6_fittingBehind tr rms s (nI b) (nI p) (nI set &&& f_X6_stripsTelling knd sec s (nI p)) (f_X6_partsTold knd sec s (nI p)) = f_X7_many (f_X7_fitsOf (f_X7_triesSet y told (nI b) (nI p) (nI set)) told 255 (nI b) (nI p)) := by
  rw [tries_eq y told b p set hs]
  exact behind_eq hT hN hp hb (fun i => bt (nI set) i) (fun _ => b) (fun _ _ => hb) hy (nI set) (fun j _ => by simp)
theorem ones64 {s : Nat} (h : s < 64) : f_J6_bitCount_0f7a4 (nI s) = f_X7_ones (nI s) ∧ ¬ f_X7_ones (nI s) ≤ -1 ∧ ¬ nI s = -1 := by
  have key : ∀ a : Fin 64, f_J6_bitCount_0f7a4 (nI a.1) = f_X7_ones (nI a.1) ∧ ¬ f_X7_ones (nI a.1) ≤ -1 ∧ ¬ nI a.1 = -1 := by decide +kernel
  exact key ⟨s, h⟩
theorem in7n {x n lo hi : Nat} (e : lo ≤ x ∧ x ≤ hi) (hx : x < 2000) (L H : Int64) (hL : L.toInt = lo) (hH : H.toInt = hi) : ¬ f_X7_in (nI x).toInt64 L H = 0 := by
  rw [in7, hL, hH, nI_toInt (by omega), if_pos (by omega)]
  decide
theorem tail_w {B P : Nat} {lat und kpl : Int32} {past kept w w' isK : Nat → Int32} {undoes : Int32} {std : Nat → Int32} (hP : P ≤ 6) (hN : SN B P std w) (hU : RU B P lat und past w undoes) (hK : RK B P kpl kept w isK) (h : ∀ j, (j < 255 ∨ 340 ≤ j) → w' j = w j) : SN B P std w' ∧ RU B P lat und past w' undoes ∧ RK B P kpl kept w' isK :=
  ⟨hN.congr hP (fun _ _ => rfl) (fun j hj => h j (by omega)), hU.congr hP (fun j h1 _ => h j (by omega)), hK.congr hP (fun j _ h2 => h j (by omega))⟩
theorem rl_smooth : Rl_smooth := by
  intro lat und kpl len ncl spe sru sbe sen lets wrds nums tb tp tr knd sec brd rms std sn ss sb sp past kept w told read isK undoes text texted seen seS seB seP at_ start clauses number word a1 a2 a3 hR
  have hR0 := hR
  obtain ⟨B, P, R, hT, hX, hS, hN, hU, hK⟩ := hR
  obtain ⟨e0, e1, e2, b1, b2, b3, b4⟩ := hT.B
  obtain ⟨t0, t1, t2⟩ := hT.t
  have hbad : ∀ x : Int32, f_X6_smooth tb tp tr knd sec rms std a1 a2 a3 = x → f_X7_smooth w told a1 a2 a3 = (x, w) → (f_X6_smooth tb tp tr knd sec rms std a1 a2 a3 = (f_X7_smooth w told a1 a2 a3).1 ∧ Rel lat und kpl len lets tb tp tr knd sec brd rms std sn ss sb sp past kept (f_X7_smooth w told a1 a2 a3).2 told isK undoes text texted seen seS seB seP) := by
    intro x e6 e7
    rw [e6, e7]; exact ⟨rfl, hR0⟩
  subst e0; subst e1
  rcases barber_cases b2 t0 a1 with ⟨b, hb, rfl, g6, g7⟩ | ⟨g6, g7⟩
  · rcases person_cases b3 t1 a2 with ⟨p, hp, rfl, h6, h7⟩ | ⟨h6, h7⟩
    · by_cases c : 1 ≤ a3.toInt ∧ a3.toInt ≤ 8
      · have q6a : ¬ a3 < 1 := by
          rw [Int32.lt_iff_toInt_lt]
          show ¬ a3.toInt < 1
          omega
        have q6b : a3 ≤ 8 := by
          rw [Int32.le_iff_toInt_le]
          show a3.toInt ≤ 8
          omega
        have q7 : ¬ f_X7_in a3.toInt64 1 8 = 0 := by
          rw [in7, if_pos (show (1 : Int64).toInt ≤ a3.toInt ∧ a3.toInt ≤ (8 : Int64).toInt from ⟨by show (1 : Int) ≤ _; omega, by show _ ≤ (8 : Int); omega⟩)]
          decide
        have hb4 : b < 4 := by omega
        have h := lp_ind2 (f := fun iz z => nx_X6_smooth_56 tr knd sec rms std (nI b) (nI p) a3 iz z.1 z.2) (g := fun iz z => nx_X7_smooth_40 told (nI b) (nI p) a3 iz z.1 z.2) (a := ((-1 : Int32), (-1 : Int32))) (b := ((-1 : Int32), w)) (fun i z y => z.1 = y.1 ∧ ((y.1 = -1 ∧ z.2 = -1) ∨ ∃ s, s < 64 ∧ y.1 = nI s ∧ z.2 = f_X7_ones (nI s)) ∧ ∀ j, (j < 255 ∨ 340 ≤ j) → y.2 j = w j) 64 ⟨rfl, Or.inl ⟨rfl, rfl⟩, fun _ _ => rfl⟩ (fun i z y hi ih => ?_)
        · have e6 : f_X6_smooth (nI B) (nI P) tr knd sec rms std (nI b) (nI p) a3 = (x_X6_smooth_56 tr knd sec rms std (nI b) (nI p) a3).1 := by
            unfold f_X6_smooth
            rw [g6, if_neg i10, h6, if_neg i10, if_neg q6a, if_pos q6b]
          have e7 : f_X7_smooth w told (nI b) (nI p) a3 = ((x_X7_smooth_40 w told (nI b) (nI p) a3).1, (x_X7_smooth_40 w told (nI b) (nI p) a3).2) := by
            unfold f_X7_smooth
            rw [g7, if_neg i10, h7, if_neg i10, if_neg q7]
          rw [e6, e7]
          dsimp only
          obtain ⟨r1, -, r3⟩ := h
          obtain ⟨n1, n2, n3⟩ := tail_w b3 hN hU hK (w' := (x_X7_smooth_40 w told (nI b) (nI p) a3).2) r3
          exact ⟨r1, B, P, R, hT, hX, hS, n1, n2, n3⟩
        · obtain ⟨x, f⟩ := z
          obtain ⟨x', v⟩ := y
          obtain ⟨r1, r2, r3⟩ := ih
          dsimp only at r1 r2 r3
          subst r1
          obtain ⟨o1, o2, o3⟩ := ones64 hi
          obtain ⟨k1, k2⟩ := set_eq hT hN hp hb4 hi (y := v) (fun j hj => r3 j (by omega))
          show v_X6_smooth_74_0 tr knd sec rms std (nI b) (nI p) a3 i x f = v_X7_smooth_80_0 told (nI b) (nI p) a3 i x v ∧ ((v_X7_smooth_80_0 told (nI b) (nI p) a3 i x v = -1 ∧ v_X6_smooth_74_1 tr knd sec rms std (nI b) (nI p) a3 i f = -1) ∨ ∃ s, s < 64 ∧ v_X7_smooth_80_0 told (nI b) (nI p) a3 i x v = nI s ∧ v_X6_smooth_74_1 tr knd sec rms std (nI b) (nI p) a3 i f = f_X7_ones (nI s)) ∧ ∀ j, (j < 255 ∨ 340 ≤ j) → f_X7_triesSet v told (nI b) (nI p) (nI i) j = w j
          have hw' : ∀ j, (j < 255 ∨ 340 ≤ j) → f_X7_triesSet v told (nI b) (nI p) (nI i) j = w j := fun j hj => (k1 j hj).trans (r3 j hj)
          unfold v_X6_smooth_74_0 v_X6_smooth_74_1 v_X7_smooth_80_0 v_X7_smooth_68_0
          rw [k2, o1]
          by_cases q : f_X7_many (f_X7_fitsOf (f_X7_triesSet v told (nI b) (nI p) (nI i)) told 255 (nI b) (nI p)) < a3
          · rw [if_pos q, if_pos q, if_pos q, if_pos rfl, ite_self, ite_self]
            exact ⟨rfl, r2, hw'⟩
          · rw [if_neg q, if_neg q, if_neg q, if_neg i10]
            rcases r2 with ⟨rfl, rfl⟩ | ⟨s, hs, rfl, rfl⟩
            · rw [if_neg o2, if_neg o2, if_pos rfl]
              exact ⟨rfl, Or.inr ⟨i, hi, rfl, rfl⟩, hw'⟩
            · rw [if_neg (ones64 hs).2.2]
              by_cases q2 : f_X7_ones (nI i) ≤ f_X7_ones (nI s)
              · rw [if_pos q2, if_pos q2]
                exact ⟨rfl, Or.inr ⟨s, hs, rfl, rfl⟩, hw'⟩
              · rw [if_neg q2, if_neg q2]
                exact ⟨rfl, Or.inr ⟨i, hi, rfl, rfl⟩, hw'⟩
      · refine hbad (-3) ?_ ?_
        · unfold f_X6_smooth
          rw [g6, if_neg i10, h6, if_neg i10]
          by_cases h : a3 < 1
          · rw [if_pos h]
          · rw [if_neg h, if_neg (fun z => ?_)]
            rw [Int32.le_iff_toInt_le] at z
            rw [Int32.lt_iff_toInt_lt] at h
            have z1 : a3.toInt ≤ 8 := z
            have h1 : ¬ a3.toInt < 1 := h
            omega
        · unfold f_X7_smooth
          rw [g7, if_neg i10, h7, if_neg i10, in7, if_pos (if_neg (fun z => ?_))]
          have z1 : (1 : Int) ≤ a3.toInt := z.1
          have z2 : a3.toInt ≤ (8 : Int) := z.2
          omega
    · refine hbad (-2) ?_ ?_
      · unfold f_X6_smooth; rw [g6, if_neg i10, if_pos h6]
      · unfold f_X7_smooth; rw [g7, if_neg i10, if_pos h7]
  · refine hbad (-2) ?_ ?_
    · unfold f_X6_smooth; rw [if_pos g6]
    · unfold f_X7_smooth; rw [if_pos g7]
theorem nI_rem {a b : Nat} (ha : a < 2 ^ 31) (hb0 : 0 < b) (hb : b < 2 ^ 31) : nI a - nI a / nI b * nI b = nI (a % b) := by
  refine Int32.toInt_inj.mp ?_
  have hm : a % b < b := Nat.mod_lt _ hb0
  rw [ksrem (nI_ne0 hb0 hb), nI_toInt ha, nI_toInt hb, nI_toInt (by omega)]
  rfl
theorem rl_round : Rl_round := by
  intro lat und kpl len ncl spe sru sbe sen lets wrds nums tb tp tr knd sec brd rms std sn ss sb sp past kept w told read isK undoes text texted seen seS seB seP at_ start clauses number word a1 a2 a3 hR
  have hR0 := hR
  obtain ⟨B, P, R, hT, hX, hS, hN, hU, hK⟩ := hR
  obtain ⟨e0, e1, e2, b1, b2, b3, b4⟩ := hT.B
  obtain ⟨t0, t1, t2⟩ := hT.t
  have hbad : ∀ x : Int32, f_X6_round tb tp tr knd sec rms std a1 a2 a3 = x → f_X7_round w told a1 a2 a3 = (x, w) → (f_X6_round tb tp tr knd sec rms std a1 a2 a3 = (f_X7_round w told a1 a2 a3).1 ∧ Rel lat und kpl len lets tb tp tr knd sec brd rms std sn ss sb sp past kept (f_X7_round w told a1 a2 a3).2 told isK undoes text texted seen seS seB seP) := by
    intro x e6 e7
    rw [e6, e7]; exact ⟨rfl, hR0⟩
  subst e0; subst e1
  rcases person_cases b3 t1 a1 with ⟨p, hp, rfl, h6, h7⟩ | ⟨h6, h7⟩
  · rcases barber_cases b2 t0 a3 with ⟨b, hb, rfl, g6, g7⟩ | ⟨g6, g7⟩
    · by_cases c : 0 ≤ a2.toInt ∧ a2.toInt < 6
      · obtain ⟨i0, hi0, rfl⟩ := of_in (n := 6) (by omega) c
        have hb4 : b < 4 := by omega
        have q7 : ¬ f_X7_in (nI i0).toInt64 0 5 = 0 := in7n (n := 0) (lo := 0) (hi := 5) (by omega) (by omega) 0 5 rfl rfl
        have eB : (if (1 : Int32) < nI B then nI B else 1) = nI B := by
          rcases (show B = 1 ∨ B = 2 ∨ B = 3 ∨ B = 4 by omega) with rfl | rfl | rfl | rfl <;> decide
        have er : ∀ k, k < 6 → (nI k + nI i0) - (((nI k + nI i0) / nI B) * nI B) = nI ((k + i0) % B) := fun k hk => by
          rw [nI_add, nI_rem (by omega) (by omega) (by omega)]
        have hmine : ∀ j, j < 6 → bt (x_X6_round_38 (nI B) (nI i0) (nI b)) j = (true && decide ((j + i0) % B = b)) := by
          unfold x_X6_round_38
          have h := lp_ind (f := fun iz z => nx_X6_round_38 (nI B) (nI i0) (nI b) iz z) (a := (0 : Int32)) (fun i z => ∀ j, j < 32 → bt z j = (decide (j < i) && decide ((j + i0) % B = b))) 6 (fun j _ => by rw [bt_0]; simp) (fun i z hi ih j hj => ?_)
          · intro j hj
            rw [h j (by omega)]
            simp [hj]
          · show bt (v_X6_round_62_0 (nI B) (nI i0) (nI b) i z) j = _
            unfold v_X6_round_62_0
            rw [eB, er i hi]
            have hmod : (i + i0) % B < B := Nat.mod_lt _ (by omega)
            by_cases q : (i + i0) % B = b
            · rw [if_pos (by rw [q]), bt_or, bt_one i j (by omega) hj, ih j hj]
              by_cases e : j = i
              · subst e; simp [q]
              · rw [show decide (j < i + 1) = decide (j < i) from decide_eq_decide.mpr (by omega)]; simp [e]
            · rw [if_neg (lits _ _ (by omega) (by omega) q), ih j hj]
              by_cases e : j = i
              · subst e; simp [q]
              · rw [show decide (j < i + 1) = decide (j < i) from decide_eq_decide.mpr (by omega)]
        have hbeh := behind_eq hT hN hp hb4 (fun _ => true) (fun k => (k + i0) % B) (fun k _ => by have : (k + i0) % B < B := Nat.mod_lt _ (by omega); omega) (y := w) (fun _ _ => rfl) (x_X6_round_38 (nI B) (nI i0) (nI b)) hmine
        have ex : x_X7_round_45 w told (nI p) (nI i0) = lp (stepT told p (fun _ => true) (fun k => (k + i0) % B)) (f_X7_copy w (nI 0) (nI 255)) 6 := by
          unfold x_X7_round_45
          refine lp_congr 6 (fun i z hi => ?_)
          show (f_X7_shaves z told 255 ((nI i + nI i0) - (((nI i + nI i0) / told 0) * told 0)) (nI p) (nI i)).2 = if true = true then (f_X7_shaves z told (nI 255) (nI ((i + i0) % B)) (nI p) (nI i)).2 else z
          rw [t0, er i hi, if_pos rfl]; rfl
        rw [← ex] at hbeh
        have e6 : f_X6_round (nI B) (nI P) tr knd sec rms std (nI p) (nI i0) (nI b) = f_X7_many (f_X7_fitsOf (x_X7_round_45 w told (nI p) (nI i0)) told (nI 255) (nI b) (nI p)) := by
          unfold f_X6_round
          rw [h6, if_neg i10, g6, if_neg i10, if_neg (nI_pos (by omega)), if_pos (show nI i0 < (6 : Int32) from (nI_ltI (b := 6) (by omega) (by omega)).mpr hi0)]
          exact hbeh.2
        have e7 : f_X7_round w told (nI p) (nI i0) (nI b) = (f_X7_many (f_X7_fitsOf (x_X7_round_45 w told (nI p) (nI i0)) told (nI 255) (nI b) (nI p)), x_X7_round_45 w told (nI p) (nI i0)) := by
          unfold f_X7_round
          rw [h7, if_neg i10, g7, if_neg i10, if_neg q7]
          rfl
        rw [e6, e7]
        dsimp only
        obtain ⟨n1, n2, n3⟩ := tail_w b3 hN hU hK (w' := x_X7_round_45 w told (nI p) (nI i0)) hbeh.1
        exact ⟨rfl, B, P, R, hT, hX, hS, n1, n2, n3⟩
      · refine hbad (-3) ?_ ?_
        · unfold f_X6_round
          rw [h6, if_neg i10, g6, if_neg i10]
          by_cases h : a2 < 0
          · rw [if_pos h]
          · rw [if_neg h, if_neg (fun z => ?_)]
            rw [Int32.lt_iff_toInt_lt] at z h
            have z1 : a2.toInt < 6 := z
            have h1 : ¬ a2.toInt < 0 := h
            omega
        · unfold f_X7_round
          rw [h7, if_neg i10, g7, if_neg i10, in7, if_pos (if_neg (fun z => ?_))]
          have z1 : (0 : Int) ≤ a2.toInt := z.1
          have z2 : a2.toInt ≤ (5 : Int) := z.2
          omega
    · refine hbad (-2) ?_ ?_
      · unfold f_X6_round; rw [h6, if_neg i10, if_pos g6]
      · unfold f_X7_round; rw [h7, if_neg i10, if_pos g7]
  · refine hbad (-2) ?_ ?_
    · unfold f_X6_round; rw [if_pos h6]
    · unfold f_X7_round; rw [if_pos h7]
