theorem rl_shave : Rl_shave := by
  intro lat und kpl len ncl spe sru sbe sen lets wrds nums tb tp tr knd sec brd rms std sn ss sb sp past kept w told read isK undoes text texted seen seS seB seP at_ start clauses number word a1 a2 a3 hR
  have hR0 := hR
  obtain ⟨B, P, R, hT, hX, hS, hN, hU, hK⟩ := hR
  obtain ⟨e0, e1, e2, b1, b2, b3, b4⟩ := hT.B
  obtain ⟨t0, t1, t2⟩ := hT.t
  subst e0; subst e1
  rcases barber_cases b2 t0 a1 with ⟨b, hb, rfl, g6, g7⟩ | ⟨g6, g7⟩
  · rcases person_cases b3 t1 a2 with ⟨p, hp, rfl, h6, h7⟩ | ⟨h6, h7⟩
    · rcases strip_cases a3 with ⟨k, hk, rfl, i6, i7⟩ | ⟨i6, i7⟩
      · have hlow := minds_low hU
        have e6 : f_X6_shave lat und (nI B) (nI P) knd sec std past (nI b) (nI p) (nI k) = ((f_X6_tellsNow knd sec std (nI p) (nI k)), (f_X6_rememberForUndo lat und std past).1, (f_X6_rememberForUndo lat und std past).2.1, (f_X4_setBeard (v_X6_shave_41_0 knd sec std (nI b) (nI p) (nI k)) (nI p) (nI k) 0), (f_X6_rememberForUndo lat und std past).2.2) := by
          unfold f_X6_shave
          rw [g6, if_neg i10, h6, if_neg i10, i6, if_neg i10]
        have e7 : f_X7_shave w told undoes (nI b) (nI p) (nI k) = (((f_X7_shaves ((f_X7_minds w undoes).1) told 0 (nI b) (nI p) (nI k)).1), (f_X7_shaves ((f_X7_minds w undoes).1) told 0 (nI b) (nI p) (nI k)).2, (f_X7_minds w undoes).2) := by
          unfold f_X7_shave
          rw [g7, if_neg i10, h7, if_neg i10, i7, if_neg i10]
        rw [e6, e7]
        obtain ⟨t, ht⟩ : ∃ t, t = f_X7_tells told (nI p) (nI k) (w (1 + (6 * p + k))) := ⟨_, rfl⟩
        have etn : f_X6_tellsNow knd sec std (nI p) (nI k) = t := by rw [tellsNow_eq hT hN hp hk, ht]
        have hN1 : SN B P std (f_X7_minds w undoes).1 := hN.congr b3 (fun _ _ => rfl) (fun j hj => hlow j (by omega))
        have esh := shaves_at (f_X7_minds w undoes).1 told (r := 0) (b := b) (p := p) (k := k) (by omega) (by omega) (by omega) hk (t := t) (by rw [ht, Nat.zero_add, hlow _ (by omega)])
        simp only [Nat.zero_add] at esh
        have esh : f_X7_shaves (f_X7_minds w undoes).1 told 0 (nI b) (nI p) (nI k) = _ := esh
        rw [esh, etn]
        dsimp only
        have hv := tells_vals (told := told) (p := p) (nI k) (w (1 + (6 * p + k))) rfl (i := k) (by omega)
        rw [← ht] at hv
        have hN2 : SN B P (f_X4_setBeard (v_X6_shave_41_0 knd sec std (nI b) (nI p) (nI k)) (nI p) (nI k) 0) (upd (if t = -1 then (f_X7_minds w undoes).1 else upd (upd (f_X7_minds w undoes).1 (37 + (6 * b + p)) ((f_X7_minds w undoes).1 (37 + (6 * b + p)) ||| (1 <<< (nI k &&& 31)))) (61 + (6 * b + p)) (if t = 1 then (f_X7_minds w undoes).1 (61 + (6 * b + p)) ||| (1 <<< (nI k &&& 31)) else (f_X7_minds w undoes).1 (61 + (6 * b + p)) &&& ((1 <<< (nI k &&& 31)) ^^^ (-1)))) (1 + (6 * p + k)) 0) := by
          rw [setBeard_at (by omega) hk]
          refine SN.setB ?_ b3 hp hk ⟨0, by omega, by omega, rfl⟩
          unfold v_X6_shave_41_0
          rw [etn]
          by_cases c : t = -1
          · rw [if_pos c, if_pos c]; exact hN1
          · rw [if_neg c, if_neg c]
            unfold f_X4_learn
            rw [setKnown_at (by omega) (by omega), known_at (by omega) (by omega), parts_at (by omega) (by omega), repl1 _ hk (by rcases hv with h | h | h; exact Or.inl h; exact Or.inr h; exact absurd h c)]
            rw [hN1.known (by omega) (by omega), hN1.parts (by omega) (by omega)]
            exact hN1.setK b2 b3 hb hp ((bw_kb (n := 6) (by omega)).mp (bw_or ((bw_kb (n := 6) (by omega)).mpr (hN1.kkb (by omega) (by omega))) (bw_one hk (by omega)))) (within_shave t (hN1.within (by omega) (by omega)))
        refine ⟨rfl, B, P, R, hT, hX, hS, hN2, push b3 hU hN (fun j h1 h2 => ?_), hK.congr b3 (fun j h1 h2 => ?_)⟩
        · rw [un (by omega)]
          by_cases c : t = -1
          · rw [if_pos c]
          · rw [if_neg c, un (by omega), un (by omega)]
        · rw [un (by omega)]
          by_cases c : t = -1
          · rw [if_pos c]; exact hlow j (by omega)
          · rw [if_neg c, un (by omega), un (by omega)]; exact hlow j (by omega)
      · have e6 : f_X6_shave lat und (nI B) (nI P) knd sec std past (nI b) (nI p) a3 = (-2, lat, und, std, past) := by
          unfold f_X6_shave
          rw [g6, if_neg i10, h6, if_neg i10, if_pos i6]
        have e7 : f_X7_shave w told undoes (nI b) (nI p) a3 = (-2, w, undoes) := by
          unfold f_X7_shave
          rw [g7, if_neg i10, h7, if_neg i10, if_pos i7]
        rw [e6, e7]; exact ⟨rfl, hR0⟩
    · have e6 : f_X6_shave lat und (nI B) (nI P) knd sec std past (nI b) a2 a3 = (-2, lat, und, std, past) := by
        unfold f_X6_shave
        rw [g6, if_neg i10, if_pos h6]
      have e7 : f_X7_shave w told undoes (nI b) a2 a3 = (-2, w, undoes) := by
        unfold f_X7_shave
        rw [g7, if_neg i10, if_pos h7]
      rw [e6, e7]; exact ⟨rfl, hR0⟩
  · have e6 : f_X6_shave lat und (nI B) (nI P) knd sec std past a1 a2 a3 = (-2, lat, und, std, past) := by
      unfold f_X6_shave
      rw [if_pos g6]
    have e7 : f_X7_shave w told undoes a1 a2 a3 = (-2, w, undoes) := by
      unfold f_X7_shave
      rw [if_pos g7]
    rw [e6, e7]; exact ⟨rfl, hR0⟩
theorem rl_burn : Rl_burn := by
  intro lat und kpl len ncl spe sru sbe sen lets wrds nums tb tp tr knd sec brd rms std sn ss sb sp past kept w told read isK undoes text texted seen seS seB seP at_ start clauses number word a1 a2 hR
  have hR0 := hR
  obtain ⟨B, P, R, hT, hX, hS, hN, hU, hK⟩ := hR
  obtain ⟨e0, e1, e2, b1, b2, b3, b4⟩ := hT.B
  obtain ⟨t0, t1, t2⟩ := hT.t
  subst e0; subst e1
  rcases barber_cases b2 t0 a1 with ⟨b, hb, rfl, g6, g7⟩ | ⟨g6, g7⟩
  · rcases person_cases b3 t1 a2 with ⟨p, hp, rfl, h6, h7⟩ | ⟨h6, h7⟩
    · have hlow := minds_low hU
      have hN1 : SN B P std (f_X7_minds w undoes).1 := hN.congr b3 (fun _ _ => rfl) (fun j hj => hlow j (by omega))
      have hk6 : kb (w (37 + (6 * b + p))) 0 64 := hN.kkb (by omega) (by omega)
      have ek : f_J6_bitCount_0f7a4 (f_X4_stripsKnown std (nI b) (nI p)) = f_X7_ones (w ((37 + ((6 * nI b) + nI p)).toNatClampNeg)) := by
        rw [known_at (by omega) (by omega), hN.known (by omega) (by omega), amK0, cl (by omega), cnt_ones hk6]
      have e6 : f_X6_burn lat und (nI B) (nI P) std past (nI b) (nI p) = if (f_X7_ones (w ((37 + ((6 * nI b) + nI p)).toNatClampNeg))) = 0 then (-4, lat, und, std, past) else ((f_X7_ones (w ((37 + ((6 * nI b) + nI p)).toNatClampNeg))), (f_X6_rememberForUndo lat und std past).1, (f_X6_rememberForUndo lat und std past).2.1, (f_X4_setKnown std (nI b) (nI p) 0 0), (f_X6_rememberForUndo lat und std past).2.2) := by
        unfold f_X6_burn
        rw [g6, if_neg i10, h6, if_neg i10, ek]
      have e7 : f_X7_burn w told undoes (nI b) (nI p) = if (f_X7_ones (w ((37 + ((6 * nI b) + nI p)).toNatClampNeg))) = 0 then (-4, w, undoes) else ((f_X7_ones (w ((37 + ((6 * nI b) + nI p)).toNatClampNeg))), (upd (upd ((f_X7_minds w undoes).1) ((37 + ((6 * nI b) + nI p)).toNatClampNeg) 0) ((61 + ((6 * nI b) + nI p)).toNatClampNeg) 0), (f_X7_minds w undoes).2) := by
        unfold f_X7_burn
        rw [g7, if_neg i10, h7, if_neg i10]
      rw [e6, e7]
      by_cases c : f_X7_ones (w ((37 + ((6 * nI b) + nI p)).toNatClampNeg)) = 0
      · rw [if_pos c, if_pos c]; exact ⟨rfl, hR0⟩
      · rw [if_neg c, if_neg c]
        dsimp only
        rw [amK0, amP0, cl (by omega), cl (by omega), setKnown_at (by omega) (by omega)]
        refine ⟨rfl, B, P, R, hT, hX, hS, hN1.setK b2 b3 hb hp ⟨0, by omega, by omega, rfl⟩ Int32.and_zero, push b3 hU hN (fun j h1 h2 => ?_), hK.congr b3 (fun j h1 h2 => ?_)⟩
        · rw [un (by omega), un (by omega)]
        · rw [un (by omega), un (by omega)]; exact hlow j (by omega)
    · have e6 : f_X6_burn lat und (nI B) (nI P) std past (nI b) a2 = (-2, lat, und, std, past) := by
        unfold f_X6_burn
        rw [g6, if_neg i10, if_pos h6]
      have e7 : f_X7_burn w told undoes (nI b) a2 = (-2, w, undoes) := by
        unfold f_X7_burn
        rw [g7, if_neg i10, if_pos h7]
      rw [e6, e7]; exact ⟨rfl, hR0⟩
  · have e6 : f_X6_burn lat und (nI B) (nI P) std past a1 a2 = (-2, lat, und, std, past) := by
      unfold f_X6_burn
      rw [if_pos g6]
    have e7 : f_X7_burn w told undoes a1 a2 = (-2, w, undoes) := by
      unfold f_X7_burn
      rw [if_pos g7]
    rw [e6, e7]; exact ⟨rfl, hR0⟩
