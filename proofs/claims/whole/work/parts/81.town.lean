theorem RT.congr {B P R : Nat} {tb tp tr : Int32} {knd sec brd rms told rd : Nat → Int32} (h : RT B P R tb tp tr knd sec brd rms told) (e : ∀ j, j < 59 → rd j = told j) : RT B P R tb tp tr knd sec brd rms rd := by
  obtain ⟨⟨e0, e1, e2, b1, b2, b3, b4⟩, ⟨t0, t1, t2⟩, h3, h4, h5, h6⟩ := h
  refine ⟨⟨e0, e1, e2, b1, b2, b3, b4⟩, ⟨by rw [e 0 (by omega)]; exact t0, by rw [e 1 (by omega)]; exact t1, by rw [e 2 (by omega)]; exact t2⟩, fun p hp => ?_, fun p k hp hk => ?_, h5, fun r hr => ?_⟩
  · rw [e _ (by omega), e _ (by omega)]; exact h3 p hp
  · rw [e _ (by omega)]; exact h4 p k hp hk
  · rw [e _ (by omega)]; exact h6 r hr
theorem copy59 (a c : Nat → Int32) (j : Nat) : lp (fun iz z => upd z ((nI iz).toNatClampNeg) (a ((nI iz).toNatClampNeg))) c 59 j = if j < 59 then a j else c j := by
  refine lp_ind (fun i (z : Nat → Int32) => ∀ j, z j = if j < i then a j else c j) 59 (fun j => by rw [if_neg (by omega)]) (fun i z hi ih j => ?_) j
  rw [cl (show i < 2000 by omega)]
  by_cases e : j = i
  · subst e; rw [us, if_pos (by omega)]
  · rw [un e, ih j]
    by_cases q : j < i
    · rw [if_pos q, if_pos (by omega)]
    · rw [if_neg q, if_neg (by omega)]
/-- both readers over the whole text -/
theorem reads_eq {B P R n : Nat} {tx : Nat → Nat} {lets text : Nat → Int32} {tb tp tr : Int32} {knd sec brd rms told : Nat → Int32} (h : TXT n tx lets text) (hT : RT B P R tb tp tr knd sec brd rms told) (sbe : Int32) (wrds nums read : Nat → Int32) (start number : Int32) (word : Int64) :
    Rd (tb, tp, tr, knd, sec, brd, rms) (f_X1_readAll (nI n) sbe lets wrds nums tp tr) (f_X7_reads told read text (nI n) start number word) := by
  obtain ⟨e0, e1, e2, b1, b2, b3, b4⟩ := hT.B
  unfold f_X1_readAll f_X7_reads
  have e15 : ((((14 : Int32).toInt - (0 : Int32).toInt).toNat) + 1) = 15 := by decide +kernel
  rw [e15]
  have hR : RT B P R tb tp tr knd sec brd rms (x_X7_reads_2 told read) := hT.congr (fun j hj => by
    unfold x_X7_reads_2
    exact (copy59 told read j).trans (if_pos hj))
  have hR2 : RTH B P R (hearFold wrds nums (tb, tp, tr, knd, sec, brd, rms) 0) (x_X7_reads_2 told read) := hR
  have hh := readAll_eq h (tb, tp, tr, knd, sec, brd, rms) 15 0 0 B P R wrds nums (x_X7_reads_2 told read) sbe start number word (by omega) (by omega) (by omega) hR2
  rw [e1, e2] at *
  exact hh
theorem rl_fault : Rl_fault := by
  intro lat und kpl len ncl spe sru sbe sen lets wrds nums tb tp tr knd sec brd rms std sn ss sb sp past kept w told read isK undoes text texted seen seS seB seP at_ start clauses number word hR
  have hR0 := hR
  obtain ⟨B, P, R, hT, hX, hS, hN, hU, hK⟩ := hR
  obtain ⟨n, tx, x1, x2, hTX⟩ := TXT.of hX
  subst x1; subst x2
  have hh := reads_eq hTX hT sbe wrds nums read start number word
  obtain ⟨C, eC⟩ : ∃ C, f_X1_readAll (nI n) sbe lets wrds nums tp tr = C := ⟨_, rfl⟩
  obtain ⟨M, eM⟩ : ∃ M, f_X7_reads told read text (nI n) start number word = M := ⟨_, rfl⟩
  rw [eC, eM] at hh
  have e6 : f_X6_fault (nI n) sbe lets wrds nums tp tr = (C.1, C.2.1, C.2.2.1, C.2.2.2.1, C.2.2.2.2.1, C.2.2.2.2.2.1, C.2.2.2.2.2.2.1, C.2.2.2.2.2.2.2) := by
    unfold f_X6_fault
    rw [eC]
  have e7 : f_X7_fault told read text (nI n) start number word = (M.1, M.2.1, M.2.2.1, M.2.2.2.1, M.2.2.2.2.1, M.2.2.2.2.2.1, M.2.2.2.2.2.2) := by
    unfold f_X7_fault
    rw [eM]
  rw [e6, e7]
  exact ⟨hh.1, hR0⟩
theorem afresh_at (std brd : Nat → Int32) {P : Nat} (hP : P ≤ 6) (j : Nat) (hj : j < 85) : f_X4_startAfresh std (nI P) brd j = if 1 ≤ j ∧ j < 1 + 6 * P then brd (j - 1) else 0 := by
  unfold f_X4_startAfresh x_X4_startAfresh_9
  rw [cl (by omega)]
  have hz : ∀ j, j < 85 → f_X0_zero 85 std j = 0 := fun j hj => by rw [zero_in 85 std (by omega), if_pos hj]
  refine lp_ind (fun i (z : Nat → Int32) => ∀ j, j < 85 → z j = if 1 ≤ j ∧ j < 1 + 6 * i then brd (j - 1) else 0) P (fun j hj => by rw [if_neg (by omega)]; exact hz j hj) (fun i z hi ih => ?_) j hj
  show ∀ j, j < 85 → x_X4_startAfresh_19 brd i z j = _
  unfold x_X4_startAfresh_19
  have h2 := lp_ind (f := fun iz z => nx_X4_startAfresh_19 brd i iz z) (a := z) (fun k (z : Nat → Int32) => ∀ j, j < 85 → z j = if 1 ≤ j ∧ j < 1 + 6 * i + k then brd (j - 1) else 0) 6 (fun j hj => by rw [ih j hj]; rfl) (fun k z hk ih => ?_)
  · intro j hj
    rw [h2 j hj]
    by_cases c : 1 ≤ j ∧ j < 1 + 6 * i + 6
    · rw [if_pos c, if_pos (by omega)]
    · rw [if_neg c, if_neg (by omega)]
  · intro j hj
    show f_X4_setBeard z (nI i) (nI k) (f_X5_toldBeard brd (nI i) (nI k)) j = _
    unfold f_X5_toldBeard
    rw [setBeard_at (by omega) hk, adT, at_in (by omega) (by omega)]
    by_cases e : j = 1 + (6 * i + k)
    · subst e
      rw [us, if_pos (by omega)]
      exact congrArg brd (by omega)
    · rw [un e, ih j hj]
      by_cases c : 1 ≤ j ∧ j < 1 + 6 * i + k
      · rw [if_pos c, if_pos (by omega)]
      · rw [if_neg c, if_neg (by omega)]
theorem zero85 (w : Nat → Int32) (j : Nat) (hj : j < 85) : x_X7_town_44 w j = 0 := by
  unfold x_X7_town_44
  have h := lp_ind (f := fun iz z => nx_X7_town_44 iz z) (a := w) (fun i (z : Nat → Int32) => ∀ j, j < i → z j = 0) 85 (fun j hj => absurd hj (by omega)) (fun i z hi ih j hj => ?_)
  · exact h j hj
  · show upd z ((nI i).toNatClampNeg) 0 j = 0
    rw [cl (show i < 2000 by omega)]
    by_cases e : j = i
    · subst e; rw [us]
    · rw [un e]; exact ih j (by omega)
theorem beards36 (g told : Nat → Int32) (j : Nat) : lp (fun iz z => upd z ((1 + (nI iz)).toNatClampNeg) (told ((15 + (nI iz)).toNatClampNeg))) g 36 j = if 1 ≤ j ∧ j < 1 + 36 then told (14 + j) else g j := by
  refine lp_ind (fun i (z : Nat → Int32) => ∀ j, z j = if 1 ≤ j ∧ j < 1 + i then told (14 + j) else g j) 36 (fun j => by rw [if_neg (by omega)]) (fun i z hi ih j => ?_) j
  have e1 : (1 + nI i).toNatClampNeg = 1 + i := by
    rw [show (1 : Int32) + nI i = nI (1 + i) from nI_add 1 i, cl (by omega)]
  have e2 : (15 + nI i).toNatClampNeg = 15 + i := by
    rw [show (15 : Int32) + nI i = nI (15 + i) from nI_add 15 i, cl (by omega)]
  rw [e1, e2]
  by_cases e : j = 1 + i
  · subst e
    rw [us, if_pos (by omega)]
    exact congrArg told (by omega)
  · rw [un e, ih j]
    by_cases c : 1 ≤ j ∧ j < 1 + i
    · rw [if_pos c, if_pos (by omega)]
    · rw [if_neg c, if_neg (by omega)]
theorem rl_town : Rl_town := by
  intro lat und kpl len ncl spe sru sbe sen lets wrds nums tb tp tr knd sec brd rms std sn ss sb sp past kept w told read isK undoes text texted seen seS seB seP at_ start clauses number word hR
  have hR0 := hR
  obtain ⟨B, P, R, hT, hX, hS, hN, hU, hK⟩ := hR
  obtain ⟨n, tx, x1, x2, hTX⟩ := TXT.of hX
  subst x1; subst x2
  have hh := reads_eq hTX hT sbe wrds nums read start number word
  obtain ⟨C, eC⟩ : ∃ C, f_X1_readAll (nI n) sbe lets wrds nums tp tr = C := ⟨_, rfl⟩
  obtain ⟨M, eM⟩ : ∃ M, f_X7_reads told read text (nI n) start number word = M := ⟨_, rfl⟩
  rw [eC, eM] at hh
  by_cases c : C.1 = -1
  · obtain ⟨K, B2, P2, R2, hK14, k1, k2, hT2⟩ := hh.2 c
    have c7 : M.1 = -1 := hh.1.symm.trans c
    obtain ⟨Z, eZ⟩ : ∃ Z, hearFold C.2.2.2.2.2.2.1 C.2.2.2.2.2.2.2 (tb, tp, tr, knd, sec, brd, rms) K = Z := ⟨_, rfl⟩
    have ex : x_X6_town_38 (nI n) sbe lets wrds nums tb tp tr knd sec brd rms = Z := by
      unfold x_X6_town_38 nx_X6_town_38
      rw [eC, k1, cl (by omega)]
      exact eZ
    rw [eZ] at hT2
    obtain ⟨tb', tp', tr', knd', sec', brd', rms'⟩ := Z
    have hT3 : RT B2 P2 R2 tb' tp' tr' knd' sec' brd' rms' M.2.1 := hT2
    have e18 : ∀ j, j < 59 → x_X7_town_18 told read text (nI n) start number word j = M.2.1 j := fun j hj => by
      unfold x_X7_town_18 nx_X7_town_18
      rw [eM]
      exact (copy59 M.2.1 told j).trans (if_pos hj)
    have hT4 : RT B2 P2 R2 tb' tp' tr' knd' sec' brd' rms' (x_X7_town_18 told read text (nI n) start number word) := hT3.congr e18
    have e65 : ∀ j, x_X7_town_65 w told read text (nI n) start number word j = if 1 ≤ j ∧ j < 1 + 36 then x_X7_town_18 told read text (nI n) start number word (14 + j) else x_X7_town_44 w j := fun j => by
      unfold x_X7_town_65
      exact beards36 (x_X7_town_44 w) (x_X7_town_18 told read text (nI n) start number word) j
    obtain ⟨told', et'⟩ : ∃ t, x_X7_town_18 told read text (nI n) start number word = t := ⟨_, rfl⟩
    obtain ⟨w', ew'⟩ : ∃ t, x_X7_town_65 w told read text (nI n) start number word = t := ⟨_, rfl⟩
    rw [et'] at hT4
    rw [et', ew'] at e65
    obtain ⟨q0, q1, q2, b1, b2, b3, b4⟩ := hT4.B
    subst q1
    have e6 : f_X6_town und kpl (nI n) sbe lets wrds nums tb tp tr knd sec brd rms std sn = (C.2.1, 0, 0, f_X1_empty, C.2.1, C.2.2.1, C.2.2.2.1, C.2.2.2.2.1, C.2.2.2.2.2.1, C.2.2.2.2.2.2.1, C.2.2.2.2.2.2.2, tb', nI P2, tr', knd', sec', brd', rms', f_X4_startAfresh std (nI P2) brd', f_X3_clear) := by
      unfold f_X6_town
      rw [eC, ex, if_pos c]
    have e7 : f_X7_town w told read isK undoes text (nI n) seen start number word = (M.2.2.2.2.1, w', told', M.2.1, upd (upd isK 0 0) 1 0, 0, 0, 0, M.2.2.1, M.2.2.2.1, M.2.2.2.2.1, M.2.2.2.2.2.1, M.2.2.2.2.2.2) := by
      unfold f_X7_town
      rw [eM, if_pos c7, et', ew']
    rw [e6, e7]
    dsimp only
    have hN2 : SN B2 P2 (f_X4_startAfresh std (nI P2) brd') w' := by
      refine ⟨?_, ?_, fun p k hp hk => ?_, fun j hj => ?_, fun b p hb hp hn' => ?_⟩
      · rw [afresh_at std brd' b3 0 (by omega), if_neg (by omega), e65, if_neg (by omega), zero85 w 0 (by omega)]
      · rw [e65, if_neg (by omega), zero85 w 0 (by omega)]
        exact ⟨0, by omega, by omega, rfl⟩
      · obtain ⟨h1, h2⟩ := hT4.2.2.2.1 p k hp hk
        have ea : 1 + (6 * p + k) - 1 = 6 * p + k := by omega
        have eb : 14 + (1 + (6 * p + k)) = 15 + (6 * p + k) := by omega
        rw [afresh_at std brd' b3 _ (by omega), if_pos (by omega), e65, if_pos (by omega), ea, eb]
        exact ⟨h1, h2⟩
      · rw [afresh_at std brd' b3 _ (by omega), if_neg (by omega), afresh_at std brd' b3 _ (by omega), if_neg (by omega), e65, if_neg (by omega), e65, if_neg (by omega), zero85 w _ (by omega), zero85 w _ (by omega)]
        exact ⟨rfl, rfl, ⟨0, by omega, by omega, rfl⟩, Int32.and_zero⟩
      · rw [e65, if_neg (by omega), zero85 w _ (by omega)]
    have hX2 : RX f_X1_empty lets 0 text := ⟨0, by omega, rfl, rfl, fun i hi => absurd hi (by omega)⟩
    have hS2 : RS f_X3_clear ss sb sp 0 seS seB seP := ⟨0, by omega, rfl, rfl, fun i hi => absurd hi (by omega)⟩
    obtain ⟨un_, L, hn8, hL, l1, l2, l3, l4⟩ := hU
    have hU2 : RU B2 P2 lat 0 past w' 0 := ⟨0, L, by omega, hL, l1, nI_0.symm, nI_0.symm, fun d hd => absurd hd (by omega)⟩
    have hK2 : RK B2 P2 0 kept w' (upd (upd isK 0 0) 1 0) := by
      refine ⟨0, 0, by omega, by omega, ?_, ?_, rfl, fun k hk hz => ?_⟩
      · rw [un (by omega), us]; rfl
      · rw [us]; rfl
      · refine absurd ?_ hz
        rcases (show k = 0 ∨ k = 1 by omega) with rfl | rfl
        · rw [un (by omega), us]
        · rw [us]
    have ha : C.2.1 = M.2.2.2.2.1 := k1.trans k2.symm
    exact ⟨ha, B2, P2, R2, hT4, hX2, hS2, hN2, hU2, hK2⟩
  · have c7 : ¬ M.1 = -1 := fun q => c (hh.1.trans q)
    have e6 : f_X6_town und kpl (nI n) sbe lets wrds nums tb tp tr knd sec brd rms std sn = ((-4), und, kpl, nI n, C.2.1, C.2.2.1, C.2.2.2.1, C.2.2.2.2.1, C.2.2.2.2.2.1, C.2.2.2.2.2.2.1, C.2.2.2.2.2.2.2, tb, tp, tr, knd, sec, brd, rms, std, sn) := by
      unfold f_X6_town
      rw [eC, if_neg c]
    have e7 : f_X7_town w told read isK undoes text (nI n) seen start number word = ((-4), w, told, M.2.1, isK, undoes, nI n, seen, M.2.2.1, M.2.2.2.1, M.2.2.2.2.1, M.2.2.2.2.2.1, M.2.2.2.2.2.2) := by
      unfold f_X7_town
      rw [eM, if_neg c7]
    rw [e6, e7]
    exact ⟨rfl, hR0⟩
theorem rl_all : RelAll := ⟨rl_write, rl_erase, rl_fault, rl_town, rl_person, rl_beard, rl_rumour, rl_knows, rl_as, rl_shave, rl_day, rl_talk, rl_burn, rl_undo, rl_keep, rl_back, rl_smooth, rl_next, rl_meet, rl_round, rl_seen, rl_forget, rl_was, rl_stays, rl_count⟩
