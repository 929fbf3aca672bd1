theorem upd_swap (f : Nat → Int32) {i j : Nat} (h : i ≠ j) (x y : Int32) : upd (upd f i x) j y = upd (upd f j y) i x := by
  funext k
  by_cases e : k = j
  · subst e; rw [us, un (fun z => h z.symm), us]
  · by_cases e2 : k = i
    · subst e2; rw [un e, us, us]
    · rw [un e, un e2, un e2, un e]
theorem within_talk {x y x2 y2 : Int32} (h : y &&& x = y) (h2 : y2 &&& x2 = y2) : ((y &&& (x2 ^^^ (-1))) ||| y2) &&& (x ||| x2) = ((y &&& (x2 ^^^ (-1))) ||| y2) := by
  refine bt_ext fun j hj => ?_
  have g1 := congrArg (fun z => bt z j) h
  have g2 := congrArg (fun z => bt z j) h2
  simp only [bt_and] at g1 g2
  rw [bt_and, bt_or, bt_and, bt_not _ j hj, bt_or]
  revert g1 g2
  cases bt x j <;> cases bt y j <;> cases bt x2 j <;> cases bt y2 j <;> simp
theorem rl_talk : Rl_talk := by
  intro lat und kpl len ncl spe sru sbe sen lets wrds nums tb tp tr knd sec brd rms std sn ss sb sp past kept w told read isK undoes text texted seen seS seB seP at_ start clauses number word a1 a2 a3 hR
  have hR0 := hR
  obtain ⟨B, P, R, hT, hX, hS, hN, hU, hK⟩ := hR
  obtain ⟨e0, e1, e2, b1, b2, b3, b4⟩ := hT.B
  obtain ⟨t0, t1, t2⟩ := hT.t
  subst e0; subst e1
  have hbad : f_X6_talk lat und (nI B) (nI P) std past a1 a2 a3 = (-2, lat, und, std, past) → f_X7_talk w told undoes a1 a2 a3 = (-2, w, undoes) → ((f_X6_talk lat und (nI B) (nI P) std past a1 a2 a3).1 = (f_X7_talk w told undoes a1 a2 a3).1 ∧ Rel (f_X6_talk lat und (nI B) (nI P) std past a1 a2 a3).2.1 (f_X6_talk lat und (nI B) (nI P) std past a1 a2 a3).2.2.1 kpl len lets (nI B) (nI P) tr knd sec brd rms (f_X6_talk lat und (nI B) (nI P) std past a1 a2 a3).2.2.2.1 sn ss sb sp (f_X6_talk lat und (nI B) (nI P) std past a1 a2 a3).2.2.2.2 kept (f_X7_talk w told undoes a1 a2 a3).2.1 told isK (f_X7_talk w told undoes a1 a2 a3).2.2 text texted seen seS seB seP) := by
    intro e6 e7
    rw [e6, e7]; exact ⟨rfl, hR0⟩
  rcases barber_cases b2 t0 a1 with ⟨b, hb, rfl, g6, g7⟩ | ⟨g6, g7⟩
  · rcases barber_cases b2 t0 a2 with ⟨o, ho, rfl, i6, i7⟩ | ⟨i6, i7⟩
    · by_cases cbo : nI b = nI o
      · refine hbad ?_ ?_
        · unfold f_X6_talk
          rw [g6, if_neg i10, i6, if_neg i10, if_pos cbo]
        · unfold f_X7_talk
          rw [g7, if_neg i10, i7, if_neg i10, if_pos cbo]
      · rcases person_cases b3 t1 a3 with ⟨p, hp, rfl, h6, h7⟩ | ⟨h6, h7⟩
        · clear hbad
          have hbo : b ≠ o := fun e => cbo (by rw [e])
          have hlow := minds_low hU
          obtain ⟨v, hv⟩ : ∃ v, v = (f_X7_minds w undoes).1 := ⟨_, rfl⟩
          have hN1 : SN B P std v := hN.congr b3 (fun _ _ => rfl) (fun j hj => by rw [hv]; exact hlow j (by omega))
          obtain ⟨xx, hxx⟩ : ∃ x, x = v (37 + (6 * o + p)) ||| v (37 + (6 * b + p)) := ⟨_, rfl⟩
          obtain ⟨yy, hyy⟩ : ∃ y, y = (v (61 + (6 * o + p)) &&& (v (37 + (6 * b + p)) ^^^ (-1))) ||| v (61 + (6 * b + p)) := ⟨_, rfl⟩
          have el : f_X4_learn std (nI o) (nI p) (f_X4_stripsKnown std (nI b) (nI p)) (f_X4_partsKnown std (nI b) (nI p)) = upd (upd std (37 + (6 * o + p)) xx) (61 + (6 * o + p)) yy := by
            unfold f_X4_learn f_X6_replaced
            rw [setKnown_at (by omega) (by omega), known_at (by omega) (by omega), parts_at (by omega) (by omega), known_at (by omega) (by omega), parts_at (by omega) (by omega), hN1.known (by omega) (by omega), hN1.parts (by omega) (by omega), hN1.known (by omega) (by omega), hN1.parts (by omega) (by omega), hN1.within (by omega) (by omega), ← hxx, ← hyy]
          have e6 : f_X6_talk lat und (nI B) (nI P) std past (nI b) (nI o) (nI p) = (xx, (f_X6_rememberForUndo lat und std past).1, (f_X6_rememberForUndo lat und std past).2.1, upd (upd std (37 + (6 * o + p)) xx) (61 + (6 * o + p)) yy, (f_X6_rememberForUndo lat und std past).2.2) := by
            unfold f_X6_talk
            rw [g6, if_neg i10, i6, if_neg i10, if_neg cbo, h6, if_neg i10, el, known_at (by omega) (by omega), un (by omega), us]
          have e7 : f_X7_talk w told undoes (nI b) (nI o) (nI p) = (xx, upd (upd v (37 + (6 * o + p)) xx) (61 + (6 * o + p)) yy, (f_X7_minds w undoes).2) := by
            unfold f_X7_talk
            rw [g7, if_neg i10, i7, if_neg i10, if_neg cbo, h7, if_neg i10, ← hv]
            simp only [amK0, amP0]
            rw [cl (by omega), cl (by omega), cl (by omega), cl (by omega), ← hyy, un (show 37 + (6 * o + p) ≠ 61 + (6 * o + p) by omega), un (show 37 + (6 * b + p) ≠ 61 + (6 * o + p) by omega), ← hxx, us, upd_swap v (show 61 + (6 * o + p) ≠ 37 + (6 * o + p) by omega)]
          rw [e6, e7]
          have hxk : kb xx 0 64 := by
            rw [hxx]
            exact (bw_kb (n := 6) (by omega)).mp (bw_or ((bw_kb (n := 6) (by omega)).mpr (hN1.kkb (by omega) (by omega))) ((bw_kb (n := 6) (by omega)).mpr (hN1.kkb (by omega) (by omega))))
          have hyx : yy &&& xx = yy := by
            rw [hxx, hyy]
            exact within_talk (hN1.within (by omega) (by omega)) (hN1.within (by omega) (by omega))
          refine ⟨rfl, B, P, R, hT, hX, hS, hN1.setK b2 b3 ho hp hxk hyx, push b3 hU hN (fun j h1 h2 => ?_), hK.congr b3 (fun j h1 h2 => ?_)⟩
          · dsimp only
            rw [un (by omega), un (by omega), hv]
          · dsimp only
            rw [un (by omega), un (by omega), hv]; exact hlow j (by omega)
        · refine hbad ?_ ?_
          · unfold f_X6_talk
            rw [g6, if_neg i10, i6, if_neg i10, if_neg cbo, if_pos h6]
          · unfold f_X7_talk
            rw [g7, if_neg i10, i7, if_neg i10, if_neg cbo, if_pos h7]
    · refine hbad ?_ ?_
      · unfold f_X6_talk
        rw [g6, if_neg i10, if_pos i6]
      · unfold f_X7_talk
        rw [g7, if_neg i10, if_pos i7]
  · refine hbad ?_ ?_
    · unfold f_X6_talk; rw [if_pos g6]
    · unfold f_X7_talk; rw [if_pos g7]
theorem rl_undo : Rl_undo := by
  intro lat und kpl len ncl spe sru sbe sen lets wrds nums tb tp tr knd sec brd rms std sn ss sb sp past kept w told read isK undoes text texted seen seS seB seP at_ start clauses number word hR
  have hR0 := hR
  obtain ⟨B, P, R, hT, hX, hS, hN, hU, hK⟩ := hR
  have b3 := hT.B.2.2.2.2.2.1
  obtain ⟨n, L, hn, hL, e1, e2, e3, h⟩ := hU
  subst e1; subst e2; subst e3
  rcases Nat.eq_zero_or_pos n with rfl | h0
  · exact ⟨rfl, hR0⟩
  · have q1 : ¬ nI n = 0 := nI_ne0 h0 (by omega)
    have em : nI n - 1 = nI (n - 1) := nI_sub (b := 1) h0 (by omega)
    have e6 : f_X6_undo (nI L) (nI n) std past = (nI (n - 1), nI ((L + 7) % 8), nI (n - 1), va_cpy past std (85 * L) 0 85) := by
      unfold f_X6_undo v_X6_undo_30_0 f_X2_fetch
      rw [if_pos (show (0 : Int32) < nI n from (nI_ltI (a := 0) (by omega) (by omega)).mpr h0), em]
      have e8 : (if nI L = 0 then (7 : Int32) else nI L - 1) = nI ((L + 7) % 8) := by
        rcases Nat.eq_zero_or_pos L with rfl | hl
        · rfl
        · rw [if_neg (nI_ne0 hl (by omega)), show nI L - 1 = nI (L - 1) from nI_sub (b := 1) hl (by omega)]
          congr 1; omega
      rw [e8, show nI L * (85 : Int32) = nI (L * 85) from nI_mul _ 85]
      have e9 := take_in (n := 85) (n1 := 680) (f := std) (g := past) (s := L * 85) (p := 0) (l := 85) (by omega) (by omega) (by omega) (by omega)
      rw [show f_X0_take 85 680 std past (nI (L * 85)) 0 85 = _ from e9, Nat.mul_comm]
    have e7 : f_X7_undo w (nI n) = (nI (n - 1), f_X7_copy w (nI (340 + 85 * (n - 1))) (nI 0), nI (n - 1)) := by
      unfold f_X7_undo
      rw [if_neg q1, em, show (85 : Int32) * nI (n - 1) = nI (85 * (n - 1)) from nI_mul 85 _, show (340 : Int32) + nI (85 * (n - 1)) = nI (340 + 85 * (n - 1)) from nI_add 340 _]
      rfl
    rw [e6, e7]
    have hlow : ∀ j, 85 ≤ j → f_X7_copy w (nI (340 + 85 * (n - 1))) (nI 0) j = w j := fun j hj => by
      rw [copy_at _ (by omega) (by omega) (by omega), if_neg (by omega)]
    refine ⟨rfl, B, P, R, hT, hX, hS, ?_, ⟨n - 1, (L + 7) % 8, by omega, by omega, rfl, rfl, rfl, fun d hd => ?_⟩, hK.congr b3 (fun j h1 h2 => hlow j h1)⟩
    · refine (h 0 h0).congr b3 (fun j hj => ?_) (fun j hj => ?_)
      · dsimp only [va_cpy]
        rw [if_pos (by omega)]
        exact congrArg past (by omega)
      · dsimp only
        rw [copy_at _ (by omega) (by omega) (by omega), if_pos (by omega)]
        exact congrArg w (by omega)
    · refine (h (d + 1) (by omega)).congr b3 (fun j hj => ?_) (fun j hj => ?_)
      · exact congrArg past (by omega)
      · dsimp only
        rw [hlow _ (by omega)]
        exact congrArg w (by omega)
theorem rl_keep : Rl_keep := by
  intro lat und kpl len ncl spe sru sbe sen lets wrds nums tb tp tr knd sec brd rms std sn ss sb sp past kept w told read isK undoes text texted seen seS seB seP at_ start clauses number word a1 hR
  have hR0 := hR
  obtain ⟨B, P, R, hT, hX, hS, hN, hU, hK⟩ := hR
  have b3 := hT.B.2.2.2.2.2.1
  by_cases c : 0 ≤ a1.toInt ∧ a1.toInt < 2
  · obtain ⟨k, hk, rfl⟩ := of_in (n := 2) (by omega) c
    have e6 : f_X6_keep kpl std kept (nI k) = (std 0, kpl ||| (1 <<< (nI k &&& 31)), va_cpy std kept 0 (85 * k) 85) := by
      unfold f_X6_keep f_X2_store f_X4_date
      rw [if_neg (nI_pos (by omega)), if_pos (show nI k < (2 : Int32) from (nI_ltI (b := 2) (by omega) (by omega)).mpr hk)]
      rw [show f_X0_at 85 std 0 = std 0 from at_in (j := 0) (by omega) (by omega), show nI k * (85 : Int32) = nI (k * 85) from nI_mul _ 85]
      have e9 := take_in (n := 170) (n1 := 85) (f := kept) (g := std) (s := 0) (p := k * 85) (l := 85) (by omega) (by omega) (by omega) (by omega)
      rw [show f_X0_take 170 85 kept std 0 (nI (k * 85)) 85 = _ from e9, Nat.mul_comm]
    have hcp : ∀ j, f_X7_copy w (nI 0) (nI (85 + 85 * k)) j = if 85 + 85 * k ≤ j ∧ j < 85 + 85 * k + 85 then w (0 + (j - (85 + 85 * k))) else w j := fun j => copy_at w (by omega) (by omega) (by omega) j
    have e7 : f_X7_keep w isK (nI k) = (w 0, f_X7_copy w (nI 0) (nI (85 + 85 * k)), upd isK k 1) := by
      unfold f_X7_keep
      rw [in7, if_neg (by rw [if_pos (by rw [nI_toInt (by omega)]; exact ⟨by show (0 : Int) ≤ _; omega, by show _ ≤ (1 : Int); omega⟩)]; decide), show (85 : Int32) * nI k = nI (85 * k) from nI_mul 85 _, show (85 : Int32) + nI (85 * k) = nI (85 + 85 * k) from nI_add 85 _, cl (by omega)]
      have := hcp 0
      rw [if_neg (by omega)] at this
      rw [show f_X7_copy w 0 (nI (85 + 85 * k)) = f_X7_copy w (nI 0) (nI (85 + 85 * k)) from rfl, this]
    rw [e6, e7]
    have hhi : ∀ j, 255 ≤ j → f_X7_copy w (nI 0) (nI (85 + 85 * k)) j = w j := fun j hj => by
      rw [hcp, if_neg (by omega)]
    have hlo : ∀ j, j < 85 → f_X7_copy w (nI 0) (nI (85 + 85 * k)) j = w j := fun j hj => by
      rw [hcp, if_neg (by omega)]
    refine ⟨hN.1, B, P, R, hT, hX, hS, hN.congr b3 (fun _ _ => rfl) (fun j hj => hlo j hj), hU.congr b3 (fun j h1 h2 => hhi j (by omega)), ?_⟩
    obtain ⟨k0, k1, h1, h2, h3, h4, h5, h6⟩ := hK
    subst h5
    dsimp only
    have hslot : ∀ k', k' < 2 → ¬ (upd isK k 1) k' = 0 → SN B P (fun j => va_cpy std kept 0 (85 * k) 85 (85 * k' + j)) (fun j => f_X7_copy w (nI 0) (nI (85 + 85 * k)) (85 + (85 * k' + j))) := by
      intro k' hk' hz
      by_cases e : k' = k
      · subst e
        refine hN.congr b3 (fun j hj => ?_) (fun j hj => ?_)
        · dsimp only [va_cpy]
          rw [if_pos (by omega)]
          exact congrArg std (by omega)
        · rw [hcp, if_pos (by omega)]
          exact congrArg w (by omega)
      · rw [un e] at hz
        refine (h6 k' hk' hz).congr b3 (fun j hj => ?_) (fun j hj => ?_)
        · dsimp only [va_cpy]
          rw [if_neg (by omega)]
        · rw [hcp, if_neg (by omega)]
    have key : ∀ (k0 k1 k : Fin 2), nI (k0.1 + 2 * k1.1) ||| (1 <<< (nI k.1 &&& 31)) = nI ((if k.1 = 0 then 1 else k0.1) + 2 * (if k.1 = 1 then 1 else k1.1)) := by decide +kernel
    refine ⟨if k = 0 then 1 else k0, if k = 1 then 1 else k1, by split <;> omega, by split <;> omega, ?_, ?_, key ⟨k0, h1⟩ ⟨k1, h2⟩ ⟨k, hk⟩, hslot⟩
    · by_cases e : k = 0
      · subst e; rw [us]; rfl
      · rw [un (fun z => e z.symm), if_neg e]; exact h3
    · by_cases e : k = 1
      · subst e; rw [us]; rfl
      · rw [un (fun z => e z.symm), if_neg e]; exact h4
  · have e6 : f_X6_keep kpl std kept a1 = (-2, kpl, kept) := by
      unfold f_X6_keep
      by_cases h : a1 < 0
      · rw [if_pos h]
      · rw [if_neg h, if_neg (fun z => ?_)]
        rw [Int32.lt_iff_toInt_lt] at z h
        have z1 : a1.toInt < 2 := z
        have h1 : ¬ a1.toInt < 0 := h
        omega
    have e7 : f_X7_keep w isK a1 = (-2, w, isK) := by
      unfold f_X7_keep
      rw [in7, if_pos (if_neg (fun z => ?_))]
      have z1 : (0 : Int) ≤ a1.toInt := z.1
      have z2 : a1.toInt ≤ (1 : Int) := z.2
      omega
    rw [e6, e7]; exact ⟨rfl, hR0⟩
theorem rl_back : Rl_back := by
  intro lat und kpl len ncl spe sru sbe sen lets wrds nums tb tp tr knd sec brd rms std sn ss sb sp past kept w told read isK undoes text texted seen seS seB seP at_ start clauses number word a1 hR
  have hR0 := hR
  obtain ⟨B, P, R, hT, hX, hS, hN, hU, hK⟩ := hR
  have b3 := hT.B.2.2.2.2.2.1
  have hK0 := hK
  obtain ⟨k0, k1, h1, h2, h3, h4, h5, h6⟩ := hK
  by_cases c : 0 ≤ a1.toInt ∧ a1.toInt < 2
  · obtain ⟨k, hk, rfl⟩ := of_in (n := 2) (by omega) c
    have ehas : f_X6_has kpl (nI k) = isK k := by
      have key : ∀ (k0 k1 k : Fin 2), f_X6_has (nI (k0.1 + 2 * k1.1)) (nI k.1) = nI (if k.1 = 0 then k0.1 else k1.1) := by decide +kernel
      rw [h5, key ⟨k0, h1⟩ ⟨k1, h2⟩ ⟨k, hk⟩]
      dsimp only
      rcases (show k = 0 ∨ k = 1 by omega) with rfl | rfl
      · exact h3.symm
      · exact h4.symm
    have q7 : ¬ f_X7_in (nI k).toInt64 0 1 = 0 := by
      rw [in7, if_pos (by rw [nI_toInt (by omega)]; exact ⟨by show (0 : Int) ≤ _; omega, by show _ ≤ (1 : Int); omega⟩)]
      decide
    by_cases cz : isK k = 0
    · have e6 : f_X6_back und kpl std kept (nI k) = (-4, und, std) := by
        unfold f_X6_back
        rw [if_neg (nI_pos (by omega)), if_pos (show nI k < (2 : Int32) from (nI_ltI (b := 2) (by omega) (by omega)).mpr hk), ehas, if_pos cz]
      have e7 : f_X7_back w isK undoes (nI k) = (-4, w, undoes) := by
        unfold f_X7_back
        rw [if_neg q7, cl (by omega), if_pos cz]
      rw [e6, e7]; exact ⟨rfl, hR0⟩
    · have hSN := h6 k hk cz
      have hcp : ∀ j, f_X7_copy w (nI (85 + 85 * k)) (nI 0) j = if 0 ≤ j ∧ j < 0 + 85 then w ((85 + 85 * k) + (j - 0)) else w j := fun j => copy_at w (by omega) (by omega) (by omega) j
      have hN2 : SN B P (va_cpy kept std (85 * k) 0 85) (f_X7_copy w (nI (85 + 85 * k)) (nI 0)) := by
        refine hSN.congr b3 (fun j hj => ?_) (fun j hj => ?_)
        · dsimp only [va_cpy]
          rw [if_pos (by omega)]
          exact congrArg kept (by omega)
        · rw [hcp, if_pos (by omega)]
          exact congrArg w (by omega)
      have e6 : f_X6_back und kpl std kept (nI k) = (va_cpy kept std (85 * k) 0 85 0, 0, va_cpy kept std (85 * k) 0 85) := by
        unfold f_X6_back f_X2_fetch f_X4_date
        rw [if_neg (nI_pos (by omega)), if_pos (show nI k < (2 : Int32) from (nI_ltI (b := 2) (by omega) (by omega)).mpr hk), ehas, if_neg cz, show nI k * (85 : Int32) = nI (k * 85) from nI_mul _ 85]
        have e9 := take_in (n := 85) (n1 := 170) (f := std) (g := kept) (s := k * 85) (p := 0) (l := 85) (by omega) (by omega) (by omega) (by omega)
        rw [show f_X0_take 85 170 std kept (nI (k * 85)) 0 85 = _ from e9, Nat.mul_comm, show f_X0_at 85 (va_cpy kept std (85 * k) 0 85) 0 = va_cpy kept std (85 * k) 0 85 0 from at_in (j := 0) (by omega) (by omega)]
      have e7 : f_X7_back w isK undoes (nI k) = (f_X7_copy w (nI (85 + 85 * k)) (nI 0) 0, f_X7_copy w (nI (85 + 85 * k)) (nI 0), 0) := by
        unfold f_X7_back
        rw [if_neg q7, cl (by omega), if_neg cz, show (85 : Int32) * nI k = nI (85 * k) from nI_mul 85 _, show (85 : Int32) + nI (85 * k) = nI (85 + 85 * k) from nI_add 85 _]
        rfl
      rw [e6, e7]
      have hhi : ∀ j, 85 ≤ j → f_X7_copy w (nI (85 + 85 * k)) (nI 0) j = w j := fun j hj => by
        rw [hcp, if_neg (by omega)]
      obtain ⟨n, L, hn, hL, e1, e2, e3, h⟩ := hU
      dsimp only
      have hU2 : RU B P lat 0 past (f_X7_copy w (nI (85 + 85 * k)) (nI 0)) 0 := ⟨0, L, by omega, hL, e1, nI_0.symm, nI_0.symm, fun d hd => absurd hd (by omega)⟩
      have hK2 : RK B P kpl kept (f_X7_copy w (nI (85 + 85 * k)) (nI 0)) isK := hK0.congr b3 (fun j h1 h2 => hhi j h1)
      have h00 := hN2.1
      exact ⟨h00, B, P, R, hT, hX, hS, hN2, hU2, hK2⟩
  · have e6 : f_X6_back und kpl std kept a1 = (-2, und, std) := by
      unfold f_X6_back
      by_cases h : a1 < 0
      · rw [if_pos h]
      · rw [if_neg h, if_neg (fun z => ?_)]
        rw [Int32.lt_iff_toInt_lt] at z h
        have z1 : a1.toInt < 2 := z
        have h1 : ¬ a1.toInt < 0 := h
        omega
    have e7 : f_X7_back w isK undoes a1 = (-2, w, undoes) := by
      unfold f_X7_back
      rw [in7, if_pos (if_neg (fun z => ?_))]
      have z1 : (0 : Int) ≤ a1.toInt := z.1
      have z2 : a1.toInt ≤ (1 : Int) := z.2
      omega
    rw [e6, e7]; exact ⟨rfl, hR0⟩
