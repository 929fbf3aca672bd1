/-! a day -/
def incA (x : Int32) : Int32 := if (x + 1) < 9 then (x + 1) else 9
def incB (x : Int32) : Int32 := if 9 ≤ x then 9 else (x + 1)
theorem inc_eq {x : Int32} (h : kb x 0 10) : incA x = incB x ∧ kb (incB x) 0 10 := by
  have key : ∀ a : Fin 10, incA (nI a.1) = incB (nI a.1) ∧ incB (nI a.1) = nI (min 9 (a.1 + 1)) := by decide +kernel
  obtain ⟨a, -, ha, rfl⟩ := h
  obtain ⟨k1, k2⟩ := key ⟨a, ha⟩
  refine ⟨k1, ?_⟩
  rw [k2]
  exact ⟨min 9 (a + 1), by omega, by omega, rfl⟩
theorem pass6_at (s : Nat → Int32) {P : Nat} (hP : P ≤ 6) (j : Nat) : f_X4_passDay s (nI P) j = if 1 ≤ j ∧ j < 1 + 6 * P then incA (s j) else upd s 0 (s 0 + 1) j := by
  unfold f_X4_passDay x_X4_passDay_16
  rw [cl (by omega)]
  have e0 : f_X0_put 85 s 0 (f_X4_date s + 1) = upd s 0 (s 0 + 1) := by
    unfold f_X4_date
    rw [show f_X0_at 85 s 0 = s 0 from at_in (j := 0) (by omega) (by omega)]
    exact put_in (j := 0) (by omega) (by omega)
  rw [e0]
  refine lp_ind (fun i (z : Nat → Int32) => ∀ j, z j = if 1 ≤ j ∧ j < 1 + 6 * i then incA (s j) else upd s 0 (s 0 + 1) j) P (fun j => by rw [if_neg (by omega)]) (fun i z hi ih => ?_) j
  show ∀ j, x_X4_passDay_23 i z j = _
  unfold x_X4_passDay_23
  have h2 := lp_ind (f := fun iz z => nx_X4_passDay_23 i iz z) (a := z) (fun k z => ∀ j, z j = if 1 ≤ j ∧ j < 1 + 6 * i + k then incA (s j) else upd s 0 (s 0 + 1) j) 6 (fun j => by rw [ih j]; rfl) (fun k z hk ih => ?_)
  · intro j
    rw [h2 j]
    by_cases c : 1 ≤ j ∧ j < 1 + 6 * i + 6
    · rw [if_pos c, if_pos (by omega)]
    · rw [if_neg c, if_neg (by omega)]
  · intro j
    show f_X4_setBeard z (nI i) (nI k) (incA (f_X4_beardOn z (nI i) (nI k))) j = _
    rw [setBeard_at (by omega) hk, beardOn_at (by omega) hk]
    by_cases e : j = 1 + (6 * i + k)
    · subst e
      rw [us, ih, if_neg (by omega), if_pos (by omega), un (by omega)]
    · rw [un e, ih j]
      by_cases c : 1 ≤ j ∧ j < 1 + 6 * i + k
      · rw [if_pos c, if_pos (by omega)]
      · rw [if_neg c, if_neg (by omega)]
theorem day7_at (w told : Nat → Int32) (und : Int32) {P : Nat} (hP : P ≤ 6) (ht : told 1 = nI P) (j : Nat) : x_X7_day_31 w told und j = if 1 ≤ j ∧ j < 1 + 6 * P then incB ((f_X7_minds w und).1 j) else upd (f_X7_minds w und).1 0 ((f_X7_minds w und).1 0 + 1) j := by
  unfold x_X7_day_31
  rw [ht, show (6 : Int32) * nI P = nI (6 * P) from nI_mul 6 P, cl (by omega)]
  generalize (f_X7_minds w und).1 = v
  refine lp_ind (fun i (z : Nat → Int32) => ∀ j, z j = if 1 ≤ j ∧ j < 1 + i then incB (v j) else upd v 0 (v 0 + 1) j) (6 * P) (fun j => by rw [if_neg (by omega)]) (fun i z hi ih => ?_) j
  intro j
  show upd z ((1 + nI i).toNatClampNeg) (incB (z ((1 + nI i).toNatClampNeg))) j = _
  have e1 : (1 + nI i).toNatClampNeg = 1 + i := by
    rw [show (1 : Int32) + nI i = nI (1 + i) from nI_add 1 i, cl (by omega)]
  rw [e1]
  by_cases e : j = 1 + i
  · subst e
    rw [us, ih, if_neg (by omega), if_pos (by omega), un (by omega)]
  · rw [un e, ih j]
    by_cases c : 1 ≤ j ∧ j < 1 + i
    · rw [if_pos c, if_pos (by omega)]
    · rw [if_neg c, if_neg (by omega)]
theorem rl_day : Rl_day := by
  intro lat und kpl len ncl spe sru sbe sen lets wrds nums tb tp tr knd sec brd rms std sn ss sb sp past kept w told read isK undoes text texted seen seS seB seP at_ start clauses number word hR
  have hR0 := hR
  obtain ⟨B, P, R, hT, hX, hS, hN, hU, hK⟩ := hR
  obtain ⟨e0, e1, e2, b1, b2, b3, b4⟩ := hT.B
  obtain ⟨t0, t1, t2⟩ := hT.t
  subst e1
  obtain ⟨dd, -, hd, ed⟩ := hN.2.1
  have es : f_X4_date std = nI dd := by
    unfold f_X4_date
    rw [show f_X0_at 85 std 0 = std 0 from at_in (j := 0) (by omega) (by omega), hN.1, ed]
  by_cases c : dd = 999
  · subst c
    have e6 : f_X6_day lat und (nI P) std past = (-5, lat, und, std, past) := by
      unfold f_X6_day
      rw [es, if_neg (show ¬ nI 999 < (999 : Int32) by decide)]
    have e7 : f_X7_day w told undoes = (-5, w, undoes) := by
      unfold f_X7_day
      rw [ed, if_pos (show nI 999 = (999 : Int32) from rfl)]
    rw [e6, e7]; exact ⟨rfl, hR0⟩
  · have hlow := minds_low hU
    have e6 : f_X6_day lat und (nI P) std past = (f_X4_passDay std (nI P) 0, (f_X6_rememberForUndo lat und std past).1, (f_X6_rememberForUndo lat und std past).2.1, (f_X4_passDay std (nI P)), (f_X6_rememberForUndo lat und std past).2.2) := by
      unfold f_X6_day
      rw [es, if_pos (show nI dd < (999 : Int32) from (nI_ltI (b := 999) (by omega) (by omega)).mpr (by omega))]
      unfold f_X4_date
      rw [show f_X0_at 85 (f_X4_passDay std (nI P)) 0 = _ from at_in (j := 0) (by omega) (by omega)]
    have e7 : f_X7_day w told undoes = (x_X7_day_31 w told undoes 0, x_X7_day_31 w told undoes, (f_X7_minds w undoes).2) := by
      unfold f_X7_day
      rw [ed, if_neg (show ¬ nI dd = (999 : Int32) from lits dd 999 (by omega) (by omega) c)]
    rw [e6, e7]
    dsimp only
    have p6 := pass6_at std b3
    have p7 := day7_at w told undoes b3 t1
    have hN2 : SN B P (f_X4_passDay std (nI P)) (x_X7_day_31 w told undoes) := by
      obtain ⟨h1, h2, h3, h4, h5⟩ := hN
      refine ⟨?_, ?_, fun p k hp hk => ?_, fun j hj => ?_, fun b p hb hp hn => ?_⟩
      · rw [p6, p7, if_neg (by omega), if_neg (by omega), us, us, h1, hlow 0 (by omega)]
      · rw [p7, if_neg (by omega), us, hlow 0 (by omega), ed, nI_1]
        exact ⟨dd + 1, by omega, by omega, rfl⟩
      · obtain ⟨q1, q2⟩ := h3 p k hp hk
        rw [p6, p7, if_pos (by omega), if_pos (by omega), q1, hlow _ (by omega)]
        exact ⟨(inc_eq q2).1, (inc_eq q2).2⟩
      · obtain ⟨q1, q2, q3, q4⟩ := h4 j hj
        rw [p6, p7, p6, p7, if_neg (by omega), if_neg (by omega), if_neg (by omega), if_neg (by omega), un (by omega), un (by omega), un (by omega), un (by omega), hlow _ (by omega), hlow _ (by omega)]
        exact ⟨q1, q2, q3, q4⟩
      · rw [p7, if_neg (by omega), un (by omega), hlow _ (by omega)]
        exact h5 b p hb hp hn
    have hU2 := push (w2 := x_X7_day_31 w told undoes) b3 hU hN (fun j h1 h2 => by rw [p7, if_neg (by omega), un (by omega)])
    have hK2 : RK B P kpl kept (x_X7_day_31 w told undoes) isK := hK.congr b3 (fun j h1 h2 => by rw [p7, if_neg (by omega), un (by omega)]; exact hlow j (by omega))
    have h00 := hN2.1
    exact ⟨h00, B, P, R, hT, hX, hS, hN2, hU2, hK2⟩
