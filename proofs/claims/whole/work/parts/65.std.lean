/-! what is done: copies, what can be undone -/
theorem nI_sub {a b : Nat} (h : b ≤ a) (ha : a < 2000) : nI a - nI b = nI (a - b) := by
  refine Int32.toInt_inj.mp ?_
  rw [Int32.toInt_sub, nI_toInt (by omega), nI_toInt (by omega), nI_toInt (by omega)]
  rw [Int.bmod_eq_of_le (by omega) (by omega)]; omega
theorem copy_at (w : Nat → Int32) {a b : Nat} (ha : a < 1100) (hb : b < 1100) (h : a + 85 ≤ b ∨ b + 85 ≤ a) (j : Nat) : f_X7_copy w (nI a) (nI b) j = if b ≤ j ∧ j < b + 85 then w (a + (j - b)) else w j := by
  unfold f_X7_copy x_X7_copy_2
  refine lp_ind (f := fun iz z => nx_X7_copy_2 (nI a) (nI b) iz z) (a := w) (fun i z => ∀ j, z j = if b ≤ j ∧ j < b + i then w (a + (j - b)) else w j) 85 (fun j => by rw [if_neg (by omega)]) (fun i z hi ih j => ?_) j
  show upd z ((nI b + nI i).toNatClampNeg) (z ((nI a + nI i).toNatClampNeg)) j = _
  rw [nI_add, nI_add, cl (by omega), cl (by omega)]
  by_cases e : j = b + i
  · subst e
    rw [us, ih (a + i), if_neg (by omega), if_pos (by omega)]
    congr 1; omega
  · rw [un e, ih j]
    by_cases c : b ≤ j ∧ j < b + i
    · rw [if_pos c, if_pos (by omega)]
    · rw [if_neg c, if_neg (by omega)]
theorem shift_at (w : Nat → Int32) (j : Nat) : x_X7_minds_11 w j = if 340 ≤ j ∧ j < 340 + 595 then w (j + 85) else w j := by
  unfold x_X7_minds_11
  refine lp_ind (f := fun iz z => nx_X7_minds_11 iz z) (a := w) (fun i z => ∀ j, z j = if 340 ≤ j ∧ j < 340 + i then w (j + 85) else w j) 595 (fun j => by rw [if_neg (by omega)]) (fun i z hi ih j => ?_) j
  show upd z ((340 + nI i).toNatClampNeg) (z (((340 + nI i) + 85).toNatClampNeg)) j = _
  have e1 : (340 + nI i).toNatClampNeg = 340 + i := by
    rw [show (340 : Int32) + nI i = nI (340 + i) from nI_add 340 i, cl (by omega)]
  have e2 : ((340 + nI i) + 85).toNatClampNeg = 340 + i + 85 := by
    rw [show ((340 : Int32) + nI i) + 85 = nI (340 + i + 85) from (congrArg (fun z => z + (85 : Int32)) (nI_add 340 i)).trans (nI_add (340 + i) 85), cl (by omega)]
  rw [e1, e2]
  by_cases e : j = 340 + i
  · subst e
    rw [us, ih (340 + i + 85), if_neg (by omega), if_pos (by omega)]
  · rw [un e, ih j]
    by_cases c : 340 ≤ j ∧ j < 340 + i
    · rw [if_pos c, if_pos (by omega)]
    · rw [if_neg c, if_neg (by omega)]
/-- what the reference remembers -/
theorem minds_at (w : Nat → Int32) {n : Nat} (hn : n ≤ 8) : ∃ m, m ≤ 7 ∧ (n = 8 → m = 7) ∧ (n < 8 → m = n) ∧ (f_X7_minds w (nI n)).2 = nI (m + 1) ∧ (∀ j, j < 340 → (f_X7_minds w (nI n)).1 j = w j) ∧ (∀ j, j < 85 → (f_X7_minds w (nI n)).1 (340 + (85 * m + j)) = w j) ∧
    (∀ i j, i < m → j < 85 → (f_X7_minds w (nI n)).1 (340 + (85 * i + j)) = if n = 8 then w (340 + (85 * (i + 1) + j)) else w (340 + (85 * i + j))) := by
  by_cases c : n = 8
  · subst c
    have e : f_X7_minds w (nI 8) = (f_X7_copy (x_X7_minds_11 w) (nI 0) (nI (340 + 85 * 7)), nI (7 + 1)) := by
      unfold f_X7_minds v_X7_minds_6_0 v_X7_minds_6_1
      rw [if_pos (show nI 8 = (8 : Int32) from rfl), if_pos (show nI 8 = (8 : Int32) from rfl)]
      rfl
    rw [e]
    dsimp only
    refine ⟨7, by omega, fun _ => rfl, fun h => absurd h (by omega), rfl, fun j hj => ?_, fun j hj => ?_, fun i j hi hj => ?_⟩
    · rw [copy_at _ (by omega) (by omega) (by omega), if_neg (by omega), shift_at, if_neg (by omega)]
    · rw [copy_at _ (by omega) (by omega) (by omega), if_pos (by omega), shift_at, if_neg (by omega)]
      exact congrArg w (by omega)
    · rw [copy_at _ (by omega) (by omega) (by omega), if_neg (by omega), shift_at, if_pos (by omega), if_pos rfl]
      exact congrArg w (by omega)
  · have e : f_X7_minds w (nI n) = (f_X7_copy w (nI 0) (nI (340 + 85 * n)), nI (n + 1)) := by
      unfold f_X7_minds v_X7_minds_6_0 v_X7_minds_6_1
      have c8 : ¬ nI n = (8 : Int32) := lits n 8 (by omega) (by omega) c
      rw [if_neg c8, if_neg c8, nI_1, show (85 : Int32) * nI n = nI (85 * n) from nI_mul 85 n, show (340 : Int32) + nI (85 * n) = nI (340 + 85 * n) from nI_add 340 _]
      rfl
    rw [e]
    dsimp only
    refine ⟨n, by omega, fun h => absurd h c, fun _ => rfl, rfl, fun j hj => ?_, fun j hj => ?_, fun i j hi hj => ?_⟩
    · rw [copy_at _ (by omega) (by omega) (by omega), if_neg (by omega)]
    · rw [copy_at _ (by omega) (by omega) (by omega), if_pos (by omega)]
      congr 1; omega
    · rw [copy_at _ (by omega) (by omega) (by omega), if_neg (by omega), if_neg c]
theorem remember_at (std past : Nat → Int32) {n L : Nat} (hn : n ≤ 8) (hL : L < 8) : f_X6_rememberForUndo (nI L) (nI n) std past = (nI ((L + 1) % 8), nI (if n < 8 then n + 1 else 8), va_cpy std past 0 (85 * ((L + 1) % 8)) 85) := by
  unfold f_X6_rememberForUndo
  have e1 : v_X6_rememberForUndo_7_0 (nI L) = nI ((L + 1) % 8) := by
    unfold v_X6_rememberForUndo_7_0
    by_cases c : L < 7
    · rw [if_pos (show nI L < (7 : Int32) from (nI_ltI (b := 7) (by omega) (by omega)).mpr c), nI_1]
      congr 1; omega
    · rw [if_neg (show ¬ nI L < (7 : Int32) from fun z => c ((nI_ltI (b := 7) (by omega) (by omega)).mp z)), show L = 7 by omega]
      rfl
  have e2 : (if (nI n + 1) < 8 then (nI n + 1) else (8 : Int32)) = nI (if n < 8 then n + 1 else 8) := by
    by_cases c : n < 8
    · rw [if_pos c]
      exact capinc (m := 8) c (by omega)
    · rw [if_neg c, show n = 8 by omega]
      rfl
  rw [e1, e2]
  unfold f_X2_store
  rw [show nI ((L + 1) % 8) * (85 : Int32) = nI ((L + 1) % 8 * 85) from nI_mul _ 85]
  have e3 := take_in (n := 680) (n1 := 85) (f := past) (g := std) (s := 0) (p := (L + 1) % 8 * 85) (l := 85) (by omega) (by omega) (by omega) (by omega)
  rw [show f_X0_take 680 85 past std 0 (nI ((L + 1) % 8 * 85)) 85 = _ from e3, Nat.mul_comm]
theorem RU.congr {B P : Nat} {lat und : Int32} {past w w' : Nat → Int32} {undoes : Int32} (hP : P ≤ 6) (h : RU B P lat und past w undoes) (hw : ∀ j, 340 ≤ j → j < 1020 → w' j = w j) : RU B P lat und past w' undoes := by
  obtain ⟨n, L, h1, h2, h3, h4, h5, h6⟩ := h
  exact ⟨n, L, h1, h2, h3, h4, h5, fun d hd => (h6 d hd).congr hP (fun _ _ => rfl) (fun j hj => hw _ (by omega) (by omega))⟩
theorem RK.congr {B P : Nat} {kpl : Int32} {kept w w' isK : Nat → Int32} (hP : P ≤ 6) (h : RK B P kpl kept w isK) (hw : ∀ j, 85 ≤ j → j < 255 → w' j = w j) : RK B P kpl kept w' isK := by
  obtain ⟨k0, k1, h1, h2, h3, h4, h5, h6⟩ := h
  exact ⟨k0, k1, h1, h2, h3, h4, h5, fun k hk hz => (h6 k hk hz).congr hP (fun _ _ => rfl) (fun j hj => hw _ (by omega) (by omega))⟩
theorem push {B P : Nat} {lat und : Int32} {std past w w2 : Nat → Int32} {undoes : Int32} (hP : P ≤ 6) (hU : RU B P lat und past w undoes) (hN : SN B P std w) (hw : ∀ j, 340 ≤ j → j < 1020 → w2 j = (f_X7_minds w undoes).1 j) : RU B P (f_X6_rememberForUndo lat und std past).1 (f_X6_rememberForUndo lat und std past).2.1 (f_X6_rememberForUndo lat und std past).2.2 w2 (f_X7_minds w undoes).2 := by
  obtain ⟨n, L, hn, hL, e1, e2, e3, h⟩ := hU
  subst e1; subst e2; subst e3
  obtain ⟨m, m1, m2, m3, m4, m5, m6, m7⟩ := minds_at w hn
  rw [remember_at std past hn hL, m4]
  have em : (if n < 8 then n + 1 else 8) = m + 1 := by
    by_cases c : n < 8
    · rw [if_pos c, m3 c]
    · rw [if_neg c, m2 (by omega)]
  rw [em]
  refine ⟨m + 1, (L + 1) % 8, by omega, by omega, rfl, rfl, rfl, fun d hd => ?_⟩
  dsimp only
  rcases Nat.eq_zero_or_pos d with rfl | h0
  · refine hN.congr hP (fun j hj => ?_) (fun j hj => ?_)
    · dsimp only [va_cpy]
      have e : ((L + 1) % 8 + 8 - 0) % 8 = (L + 1) % 8 := by omega
      rw [e, if_pos (by omega)]
      congr 1; omega
    · show w2 _ = _
      rw [hw _ (by omega) (by omega), show m + 1 - 1 - 0 = m by omega, m6 j hj]
  · have h1 := h (d - 1) (by
      by_cases c : n < 8
      · have := m3 c; omega
      · have := m2 (by omega); omega)
    refine h1.congr hP (fun j hj => ?_) (fun j hj => ?_)
    · dsimp only [va_cpy]
      have e : ((L + 1) % 8 + 8 - d) % 8 = (L + 8 - (d - 1)) % 8 := by omega
      rw [e, if_neg (by omega)]
    · show w2 _ = w _
      rw [hw _ (by omega) (by omega), m7 (m + 1 - 1 - d) j (by omega) hj]
      by_cases c : n < 8
      · have e := m3 c
        rw [if_neg (by omega)]
        congr 1; omega
      · have e := m2 (by omega)
        rw [if_pos (by omega)]
        congr 1; omega
theorem minds_low {B P : Nat} {lat und : Int32} {past w : Nat → Int32} {undoes : Int32} (hU : RU B P lat und past w undoes) : ∀ j, j < 340 → (f_X7_minds w undoes).1 j = w j := by
  obtain ⟨n, L, hn, hL, e1, e2, e3, h⟩ := hU
  subst e3
  obtain ⟨m, m1, m2, m3, m4, m5, m6, m7⟩ := minds_at w hn
  exact m5
/-! changes of a standing -/
theorem SN.setK {B P : Nat} {s v : Nat → Int32} {b p : Nat} {x y : Int32} (hN : SN B P s v) (hB : B ≤ 4) (hP : P ≤ 6) (hb : b < B) (hp : p < P) (hx : kb x 0 64) (hy : y &&& x = y) : SN B P (upd (upd s (37 + (6 * b + p)) x) (61 + (6 * b + p)) y) (upd (upd v (37 + (6 * b + p)) x) (61 + (6 * b + p)) y) := by
  obtain ⟨h1, h2, h3, h4, h5⟩ := hN
  refine ⟨?_, ?_, fun p' k hp' hk => ?_, fun j hj => ?_, fun b' p' hb' hp' hn => ?_⟩
  · rw [un (by omega), un (by omega), un (by omega), un (by omega)]; exact h1
  · rw [un (by omega), un (by omega)]; exact h2
  · rw [un (by omega), un (by omega), un (by omega), un (by omega)]; exact h3 p' k hp' hk
  · by_cases e : j = 6 * b + p
    · subst e
      refine ⟨?_, ?_, ?_, ?_⟩
      · rw [un (by omega), us, un (by omega), us]
      · rw [us, us]
      · rw [un (by omega), us]; exact hx
      · rw [us, un (by omega), us]; exact hy
    · rw [un (by omega), un (by omega), un (by omega), un (by omega), un (by omega), un (by omega), un (by omega), un (by omega)]
      exact h4 j hj
  · have hne : 6 * b' + p' ≠ 6 * b + p := by
      intro e
      exact hn ⟨by omega, by omega⟩
    rw [un (by omega), un (by omega)]
    exact h5 b' p' hb' hp' hn
theorem SN.setB {B P : Nat} {s v : Nat → Int32} {p k : Nat} {x : Int32} (hN : SN B P s v) (hP : P ≤ 6) (hp : p < P) (hk : k < 6) (hx : kb x 0 10) : SN B P (upd s (1 + (6 * p + k)) x) (upd v (1 + (6 * p + k)) x) := by
  obtain ⟨h1, h2, h3, h4, h5⟩ := hN
  refine ⟨?_, ?_, fun p' k' hp' hk' => ?_, fun j hj => ?_, fun b' p' hb' hp' hn => ?_⟩
  · rw [un (by omega), un (by omega)]; exact h1
  · rw [un (by omega)]; exact h2
  · by_cases e : 6 * p' + k' = 6 * p + k
    · rw [e, us, us]; exact ⟨rfl, hx⟩
    · rw [un (by omega), un (by omega)]; exact h3 p' k' hp' hk'
  · rw [un (by omega), un (by omega), un (by omega), un (by omega)]; exact h4 j hj
  · rw [un (by omega)]; exact h5 b' p' hb' hp' hn
/-! a strip is shaved -/
theorem shaves_at (w told : Nat → Int32) {r b p k : Nat} (hr : r < 900) (hb : b < 4) (hp : p < 6) (hk : k < 6) {t : Int32} (ht : t = f_X7_tells told (nI p) (nI k) (w (r + (1 + (6 * p + k))))) : f_X7_shaves w told (nI r) (nI b) (nI p) (nI k) = (t, upd (if t = -1 then w else upd (upd w (r + (37 + (6 * b + p))) (w (r + (37 + (6 * b + p))) ||| (1 <<< (nI k &&& 31)))) (r + (61 + (6 * b + p))) (if t = 1 then w (r + (61 + (6 * b + p))) ||| (1 <<< (nI k &&& 31)) else w (r + (61 + (6 * b + p))) &&& ((1 <<< (nI k &&& 31)) ^^^ (-1)))) (r + (1 + (6 * p + k))) 0) := by
  unfold f_X7_shaves v_X7_shaves_28_0 f_X7_knowsPart v_X7_knowsPart_41_0
  rw [amB, cl (by omega), ← ht, amK, amP, cl (by omega), cl (by omega)]
  rw [un (f := w) (show r + (61 + (6 * b + p)) ≠ r + (37 + (6 * b + p)) by omega)]
theorem shl0 (k : Nat) (hk : k < 31) : (0 : Int32) <<< (nI k &&& 31) = 0 := by
  have key : ∀ a : Fin 31, (0 : Int32) <<< (nI a.1 &&& 31) = 0 := by decide +kernel
  exact key ⟨k, hk⟩
theorem repl1 (x : Int32) {t : Int32} {k : Nat} (hk : k < 6) (ht : t = 0 ∨ t = 1) : f_X6_replaced x (1 <<< (nI k &&& 31)) (t <<< (nI k &&& 31)) = if t = 1 then x ||| (1 <<< (nI k &&& 31)) else x &&& ((1 <<< (nI k &&& 31)) ^^^ (-1)) := by
  unfold f_X6_replaced
  rcases ht with rfl | rfl
  · rw [shl0 k (by omega), if_neg (by decide), Int32.zero_and, Int32.or_zero]
  · rw [if_pos rfl]
    refine bt_ext fun j hj => ?_
    rw [bt_or, bt_and, bt_not _ j hj, bt_and, bt_or]
    cases bt x j <;> cases bt (1 <<< (nI k &&& 31)) j <;> rfl
theorem within_shave {x y : Int32} {k : Nat} (t : Int32) (h : y &&& x = y) : (if t = 1 then y ||| (1 <<< (nI k &&& 31)) else y &&& ((1 <<< (nI k &&& 31)) ^^^ (-1))) &&& (x ||| (1 <<< (nI k &&& 31))) = (if t = 1 then y ||| (1 <<< (nI k &&& 31)) else y &&& ((1 <<< (nI k &&& 31)) ^^^ (-1))) := by
  refine bt_ext fun j hj => ?_
  have h2 := congrArg (fun z => bt z j) h
  simp only [bt_and] at h2
  by_cases c : t = 1
  · rw [if_pos c, bt_and, bt_or, bt_or]
    revert h2
    cases bt x j <;> cases bt y j <;> cases bt (1 <<< (nI k &&& 31)) j <;> simp
  · rw [if_neg c, bt_and, bt_and, bt_not _ j hj, bt_or]
    revert h2
    cases bt x j <;> cases bt y j <;> cases bt (1 <<< (nI k &&& 31)) j <;> simp
