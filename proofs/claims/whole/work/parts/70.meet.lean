theorem meet_step {x y kk pp : Int32} (h : y &&& x = y) : f_X6_replaced y (kk &&& (x ^^^ (-1))) pp = y ||| (pp &&& (kk &&& (x ^^^ (-1)))) ∧ (y ||| (pp &&& (kk &&& (x ^^^ (-1))))) &&& (x ||| (kk &&& (x ^^^ (-1)))) = y ||| (pp &&& (kk &&& (x ^^^ (-1)))) := by
  unfold f_X6_replaced
  constructor
  · refine bt_ext fun j hj => ?_
    have g1 := congrArg (fun z => bt z j) h
    simp only [bt_and] at g1
    rw [bt_or, bt_and, bt_not _ j hj, bt_and, bt_not _ j hj, bt_and, bt_and, bt_not _ j hj, bt_or, bt_and, bt_and, bt_not _ j hj]
    revert g1
    cases bt x j <;> cases bt y j <;> cases bt kk j <;> cases bt pp j <;> simp
  · refine bt_ext fun j hj => ?_
    have g1 := congrArg (fun z => bt z j) h
    simp only [bt_and] at g1
    rw [bt_and, bt_or, bt_and, bt_and, bt_not _ j hj, bt_or, bt_and, bt_not _ j hj]
    revert g1
    cases bt x j <;> cases bt y j <;> cases bt kk j <;> cases bt pp j <;> simp
theorem ones16 {s : Nat} (h : s < 16) : f_J6_bitCount_0f7a4 (nI s) = f_X7_ones (nI s) ∧ ¬ (5 : Int32) ≤ f_X7_ones (nI s) ∧ ¬ nI s = -1 := by
  have key : ∀ a : Fin 16, f_J6_bitCount_0f7a4 (nI a.1) = f_X7_ones (nI a.1) ∧ ¬ (5 : Int32) ≤ f_X7_ones (nI a.1) ∧ ¬ nI a.1 = -1 := by decide +kernel
  exact key ⟨s, h⟩
theorem rl_meet : Rl_meet := by
  intro lat und kpl len ncl spe sru sbe sen lets wrds nums tb tp tr knd sec brd rms std sn ss sb sp past kept w told read isK undoes text texted seen seS seB seP at_ start clauses number word a1 a2 hR
  refine ⟨?_, hR⟩
  obtain ⟨B, P, R, hT, -, -, hN, -⟩ := hR
  have hT0 := hT
  obtain ⟨e0, e1, e2, b1, b2, b3, b4⟩ := hT.B
  obtain ⟨t0, t1, t2⟩ := hT.t
  subst e0; subst e1
  have e2' := e2
  subst e2
  unfold f_X6_meet f_X7_meet
  rcases person_cases b3 t1 a1 with ⟨p, hp, rfl, h6, h7⟩ | ⟨h6, h7⟩
  · rw [h6, h7, if_neg i10, if_neg i10]
    rcases rumour_cases b4 t2 a2 with ⟨r, hr, rfl, g6, g7⟩ | ⟨g6, g7⟩
    · rw [g6, g7, if_neg i10, if_neg i10]
      have hp6 : p < 6 := by omega
      have ein : ∀ s, s < 16 → f_X6_fittingTogether (nI B) (nI R) rms std (nI s) (nI p) = f_X7_fitsBy told ((x_X7_meet_46 w told (nI p) s).1) ((x_X7_meet_46 w told (nI p) s).2) := by
        intro s hs
        have hl : x_X6_fittingTogether_8 (nI B) std (nI s) (nI p) = x_X7_meet_46 w told (nI p) s ∧ (x_X7_meet_46 w told (nI p) s).2 &&& (x_X7_meet_46 w told (nI p) s).1 = (x_X7_meet_46 w told (nI p) s).2 := by
          unfold x_X6_fittingTogether_8 x_X7_meet_46
          rw [t0, cl (by omega)]
          refine lp_ind2 (fun i (z y : Int32 × Int32) => z = y ∧ y.2 &&& y.1 = y.2) B ⟨rfl, Int32.and_zero⟩ (fun i z y hi ih => ?_)
          obtain ⟨rfl, ih⟩ := ih
          obtain ⟨x, y⟩ := z
          dsimp only at ih
          show (v_X6_fittingTogether_26_0 std (nI s) (nI p) i x, v_X6_fittingTogether_26_1 std (nI s) (nI p) i x y) = nx_X7_meet_46 w (nI p) s i x y ∧ (nx_X7_meet_46 w (nI p) s i x y).2 &&& (nx_X7_meet_46 w (nI p) s i x y).1 = (nx_X7_meet_46 w (nI p) s i x y).2
          unfold v_X6_fittingTogether_26_0 v_X6_fittingTogether_26_1 nx_X7_meet_46 v_X7_meet_64_0
          dsimp only
          rw [known_at (by omega) hp6, parts_at (by omega) hp6, hN.known (by omega) hp6, hN.parts (by omega) hp6, amK1, amP1, cl (by omega), cl (by omega), has67]
          by_cases c : f_X6_has (nI s) (nI i) = 0
          · rw [if_pos c, if_pos c, if_pos c, Int32.or_zero, Int32.and_zero, Int32.or_zero]
            exact ⟨rfl, ih⟩
          · rw [if_neg c, if_neg c, if_neg c]
            obtain ⟨q1, q2⟩ := meet_step (kk := w (37 + (6 * i + p))) (pp := w (61 + (6 * i + p))) ih
            rw [q1]
            exact ⟨rfl, q2⟩
        unfold f_X6_fittingTogether
        rw [hl.1, fits_eq hT0 hl.2]
      unfold x_X6_meet_27 x_X7_meet_24
      rw [t0]
      have hB16 : ((1 : Int32) <<< (nI B &&& 31)).toNatClampNeg ≤ 16 := by
        rw [one_shl B (by omega), cl (by rcases (show B = 1 ∨ B = 2 ∨ B = 3 ∨ B = 4 by omega) with rfl | rfl | rfl | rfl <;> decide)]
        rcases (show B = 1 ∨ B = 2 ∨ B = 3 ∨ B = 4 by omega) with rfl | rfl | rfl | rfl <;> decide
      have h := lp_ind2 (f := fun iz z => nx_X6_meet_27 (nI B) (nI R) rms std (nI p) (nI r) iz z.1 z.2) (g := fun iz z => nx_X7_meet_24 w told (nI p) (nI r) iz z) (a := ((-1 : Int32), (5 : Int32))) (b := (-1 : Int32)) (fun i z y => z.1 = y ∧ ((y = -1 ∧ z.2 = 5) ∨ ∃ s, s < 16 ∧ y = nI s ∧ z.2 = f_X7_ones (nI s))) (((1 : Int32) <<< (nI B &&& 31)).toNatClampNeg) ⟨rfl, Or.inl ⟨rfl, rfl⟩⟩ (fun i z y hi ih => ?_)
      · exact h.1
      · obtain ⟨x, f⟩ := z
        obtain ⟨rfl, ih⟩ := ih
        have hi16 : i < 16 := by omega
        obtain ⟨o1, o2, o3⟩ := ones16 hi16
        show v_X6_meet_52_0 (nI B) (nI R) rms std (nI p) (nI r) i x f = v_X7_meet_152_0 w told (nI p) (nI r) i x ∧ ((v_X7_meet_152_0 w told (nI p) (nI r) i x = -1 ∧ v_X6_meet_52_1 (nI B) (nI R) rms std (nI p) (nI r) i f = 5) ∨ ∃ s, s < 16 ∧ v_X7_meet_152_0 w told (nI p) (nI r) i x = nI s ∧ v_X6_meet_52_1 (nI B) (nI R) rms std (nI p) (nI r) i f = f_X7_ones (nI s))
        unfold v_X6_meet_52_0 v_X6_meet_52_1 v_X7_meet_152_0 v_X7_meet_140_0
        rw [ein i hi16, o1]
        dsimp only at ih
        by_cases q : f_X7_fitsBy told ((x_X7_meet_46 w told (nI p) i).1) ((x_X7_meet_46 w told (nI p) i).2) = (1 <<< (nI r &&& 31))
        · rw [if_pos q, if_pos q, if_pos q, if_neg i10]
          rcases ih with ⟨rfl, rfl⟩ | ⟨s, hs, rfl, rfl⟩
          · rw [if_neg o2, if_neg o2, if_pos rfl]
            exact ⟨rfl, Or.inr ⟨i, hi16, rfl, rfl⟩⟩
          · rw [if_neg (ones16 hs).2.2]
            by_cases q2 : f_X7_ones (nI s) ≤ f_X7_ones (nI i)
            · rw [if_pos q2, if_pos q2]
              exact ⟨rfl, Or.inr ⟨s, hs, rfl, rfl⟩⟩
            · rw [if_neg q2, if_neg q2]
              exact ⟨rfl, Or.inr ⟨i, hi16, rfl, rfl⟩⟩
        · rw [if_neg q, if_neg q, if_neg q, if_pos rfl, ite_self, ite_self]
          exact ⟨rfl, ih⟩
    · rw [if_pos g6, if_pos g7]
  · rw [if_pos h6, if_pos h7]
