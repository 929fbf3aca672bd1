section CK
variable {n : Nat} {tx : Nat → Nat} {lets text : Nat → Int32} {B P R : Nat} {z : TS} {rd wrds nums : Nat → Int32}
theorem put42_0 {nums : Nat → Int32} {k : Nat} {x : Int32} (hk : k < 14) : f_X0_put 42 nums ((nI k * 3) + 0) x = upd nums (3 * k) x := put42 (q := 0) hk (by omega)
theorem put42_1 {nums : Nat → Int32} {k : Nat} {x : Int32} (hk : k < 14) : f_X0_put 42 nums ((nI k * 3) + 1) x = upd nums (3 * k + 1) x := put42 (q := 1) hk (by omega)
theorem put42_2 {nums : Nat → Int32} {k : Nat} {x : Int32} (hk : k < 14) : f_X0_put 42 nums ((nI k * 3) + 2) x = upd nums (3 * k + 2) x := put42 (q := 2) hk (by omega)
theorem heard1 {k i v : Nat} (hk : k < 14) (z : TS) : hearAt (upd wrds k (nI i)) (upd nums (3 * k) (nI v)) k z = f_X5_hear z.1 z.2.1 z.2.2.1 z.2.2.2.1 z.2.2.2.2.1 z.2.2.2.2.2.1 z.2.2.2.2.2.2 (nI i) (nI v) (nums (3 * k + 1)) (nums (3 * k + 2)) := by
  rw [hearAt_eq hk, us, us, un (by omega), un (by omega)]
theorem takesOne_fail {text : Nat → Int32} {f b : Nat} {number : Int32} {i : Int32} {A q N : Int32} (hP : ¬ rd 1 = 6) (hn : f_X7_takesNumber text (nI n) (nI f) 0 63 = (0, A, q, N)) : f_X7_takesOne rd text (nI n) (nI f) (nI b) number i = (0, rd, A, q, N) := by
  unfold f_X7_takesOne
  rw [if_neg hP, hn]
  dsimp only
  rw [if_pos rfl]
theorem takesOne_ok {text : Nat → Int32} {f b : Nat} {number : Int32} {i : Int32} {A q v : Int32} (hP : ¬ rd 1 = 6) (hn : f_X7_takesNumber text (nI n) (nI f) 0 63 = (1, A, q, v)) : f_X7_takesOne rd text (nI n) (nI f) (nI b) number i = (1, oneMore rd i v, A, q, v) := by
  unfold f_X7_takesOne x_X7_takesOne_54
  rw [if_neg hP, hn]
  dsimp only
  rw [if_neg i10]
  rfl
theorem takesOne_bar {text : Nat → Int32} {f b : Nat} {number : Int32} {i : Int32} (hP : rd 1 = 6) : f_X7_takesOne rd text (nI n) (nI f) (nI b) number i = (0, rd, nI f, nI b, number) := by
  unfold f_X7_takesOne
  rw [if_pos hP]
/-- one more of people -/
theorem cl_one (h : TXT n tx lets text) {k b f e i : Nat} (hi : i < 4) (hk : k < 14) (hb : b ≤ n) (hf : f ≤ n) (hT : RTH B P R z rd) (ewh : f_X1_wordHere (nI b) (nI f) lets = nI i) {number : Int32} {K : Int64} (etc : f_X7_takesClause rd text (nI n) (nI e) number = ((f_X7_takesOne rd text (nI n) (nI f) (nI b) number (nI i)).1, (f_X7_takesOne rd text (nI n) (nI f) (nI b) number (nI i)).2.1, (f_X7_takesOne rd text (nI n) (nI f) (nI b) number (nI i)).2.2.1, (f_X7_takesOne rd text (nI n) (nI f) (nI b) number (nI i)).2.2.2.1, (f_X7_takesOne rd text (nI n) (nI f) (nI b) number (nI i)).2.2.2.2, K)) :
    Cl n k wrds nums z (f_X1_readClause (nI n) (nI k) (nI P) (nI R) (nI b) (nI f) lets wrds nums) (f_X7_takesClause rd text (nI n) (nI e) number) := by
  have hn := h.1
  obtain ⟨e0, e1, e2, b1, b2, b3, b4⟩ := hT.B
  obtain ⟨t0, t1, t2⟩ := hT.t
  have hcs := canStand_at b3 b4 (show i < 7 by omega)
  rw [if_neg (by omega), if_neg (by omega)] at hcs
  by_cases c : P < 6
  · rw [if_pos c] at hcs
    have h6 : ¬ rd 1 = 6 := by rw [t1]; exact lits P 6 (by omega) (by omega) (by omega)
    obtain ⟨q, q1, hq⟩ := num_at h hf 0 63 (by decide) (nI k) 0 nums
    rcases hq with ⟨X, A, N, r6, r7⟩ | ⟨f2, v, v1, v2, v3, v4, r6, r7⟩
    · rw [read1 (by omega) (by omega) hk ewh hcs (by rw [if_neg (by omega)]) (by rw [if_neg (by omega)]) r6, etc, takesOne_fail h6 r7]
      exact Or.inl ⟨rfl, rfl, rfl, nI_nem1 (by omega)⟩
    · rw [read1 (by omega) (by omega) hk ewh hcs (by rw [if_neg (by omega)]) (by rw [if_neg (by omega)]) r6, etc, takesOne_ok h6 r7, countIn_at P R i (by omega), if_neg (by omega), if_neg (by omega), if_neg (by omega), put42_0 hk]
      have hv : v ≤ 63 := by have : ((v : Nat) : Int) ≤ 63 := v4; omega
      obtain ⟨g1, g2⟩ := hear_one hT hi c hv (nums (3 * k + 1)) (nums (3 * k + 2))
      refine Or.inr ⟨rfl, rfl, B, P + 1, R, f2, rfl, rfl, rfl, rfl, v1, fun j hj => un (by omega), fun j hj => un (by omega), ?_⟩
      show RTH B (P + 1) R (hearAt (upd wrds k (nI i)) (upd nums (3 * k) (nI v)) k z) (oneMore rd (nI i) (nI v))
      rw [heard1 hk, g1]
      exact g2
  · rw [if_neg c] at hcs
    have h6 : rd 1 = 6 := by rw [t1, show P = 6 by omega]; rfl
    rw [clause_bar ewh hcs, etc, takesOne_bar h6]
    exact Or.inl ⟨rfl, rfl, rfl, nI_nem1 (by omega)⟩
theorem cl_town (h : TXT n tx lets text) {k b f e : Nat} (hk : k < 14) (hb : b ≤ n) (hf : f ≤ n) (hT : RTH B P R z rd) (ewh : f_X1_wordHere (nI b) (nI f) lets = nI 4) {number : Int32} {K : Int64} (etc : f_X7_takesClause rd text (nI n) (nI e) number = ((f_X7_takesTown rd text (nI n) (nI f)).1, (f_X7_takesTown rd text (nI n) (nI f)).2.1, (f_X7_takesTown rd text (nI n) (nI f)).2.2.1, (f_X7_takesTown rd text (nI n) (nI f)).2.2.2.1, (f_X7_takesTown rd text (nI n) (nI f)).2.2.2.2, K)) :
    Cl n k wrds nums z (f_X1_readClause (nI n) (nI k) (nI P) (nI R) (nI b) (nI f) lets wrds nums) (f_X7_takesClause rd text (nI n) (nI e) number) := by
  have hn := h.1
  obtain ⟨e0, e1, e2, b1, b2, b3, b4⟩ := hT.B
  obtain ⟨t0, t1, t2⟩ := hT.t
  have hcs := canStand_at b3 b4 (show 4 < 7 by omega)
  rw [if_pos (by omega)] at hcs
  obtain ⟨q, q1, hq⟩ := num_at h hf 1 4 (by decide) (nI k) 0 nums
  rcases hq with ⟨X, A, N, r6, r7⟩ | ⟨f2, v, v1, v2, v3, v4, r6, r7⟩
  · have et : f_X7_takesTown rd text (nI n) (nI f) = (0, rd, A, nI q, N) := by
      unfold f_X7_takesTown
      rw [r7]
      dsimp only
      rw [if_pos rfl]
    rw [read1 (by omega) (by omega) hk ewh hcs (by rw [if_pos rfl]) (by rw [if_pos rfl]) r6, etc, et]
    exact Or.inl ⟨rfl, rfl, rfl, nI_nem1 (by omega)⟩
  · have et : f_X7_takesTown rd text (nI n) (nI f) = (1, upd (upd (upd rd 0 (nI v)) 1 0) 2 0, nI f2, nI q, nI v) := by
      unfold f_X7_takesTown
      rw [r7]
      dsimp only
      rw [if_neg i10]
    rw [read1 (by omega) (by omega) hk ewh hcs (by rw [if_pos rfl]) (by rw [if_pos rfl]) r6, etc, et, countIn_at P R 4 (by omega), if_pos rfl, put42_0 hk]
    have hv1 : 1 ≤ v := by have : (1 : Int) ≤ ((v : Nat) : Int) := v3; omega
    have hv4 : v ≤ 4 := by have : ((v : Nat) : Int) ≤ 4 := v4; omega
    obtain ⟨g1, g2⟩ := hear_town hT hv1 hv4 (nums (3 * k + 1)) (nums (3 * k + 2))
    refine Or.inr ⟨rfl, rfl, v, 0, 0, f2, rfl, rfl, rfl, rfl, v1, fun j hj => un (by omega), fun j hj => un (by omega), ?_⟩
    show RTH v 0 0 (hearAt (upd wrds k (nI 4)) (upd nums (3 * k) (nI v)) k z) (upd (upd (upd rd 0 (nI v)) 1 0) 2 0)
    rw [heard1 hk, show nI 4 = (4 : Int32) from rfl, g1]
    exact g2
theorem cl_rumour (h : TXT n tx lets text) {k b f e : Nat} (hk : k < 14) (hb : b ≤ n) (hf : f ≤ n) (hT : RTH B P R z rd) (ewh : f_X1_wordHere (nI b) (nI f) lets = nI 5) {number : Int32} {K : Int64} (etc : f_X7_takesClause rd text (nI n) (nI e) number = ((f_X7_takesRumour rd text (nI n) (nI f) (nI b) number).1, (f_X7_takesRumour rd text (nI n) (nI f) (nI b) number).2.1, (f_X7_takesRumour rd text (nI n) (nI f) (nI b) number).2.2.1, (f_X7_takesRumour rd text (nI n) (nI f) (nI b) number).2.2.2.1, (f_X7_takesRumour rd text (nI n) (nI f) (nI b) number).2.2.2.2, K)) :
    Cl n k wrds nums z (f_X1_readClause (nI n) (nI k) (nI P) (nI R) (nI b) (nI f) lets wrds nums) (f_X7_takesClause rd text (nI n) (nI e) number) := by
  have hn := h.1
  obtain ⟨e0, e1, e2, b1, b2, b3, b4⟩ := hT.B
  obtain ⟨t0, t1, t2⟩ := hT.t
  have hcs := canStand_at b3 b4 (show 5 < 7 by omega)
  rw [if_neg (by omega), if_pos rfl] at hcs
  by_cases c : R < 8
  · rw [if_pos c] at hcs
    have h8 : ¬ rd 2 = 8 := by rw [t2]; exact lits R 8 (by omega) (by omega) (by omega)
    obtain ⟨q, q1, hq⟩ := num_at h hf 0 63 (by decide) (nI k) 0 nums
    rcases hq with ⟨X, A, N, r6, r7⟩ | ⟨f2, v, v1, v2, v3, v4, r6, r7⟩
    · have et : f_X7_takesRumour rd text (nI n) (nI f) (nI b) number = (0, rd, A, nI q, N) := by
        unfold f_X7_takesRumour
        rw [if_neg h8, r7]
        dsimp only
        rw [if_pos rfl]
      rw [read1 (by omega) (by omega) hk ewh hcs (by rw [if_neg (by omega)]) (by rw [if_neg (by omega)]) r6, etc, et]
      exact Or.inl ⟨rfl, rfl, rfl, nI_nem1 (by omega)⟩
    · have et : f_X7_takesRumour rd text (nI n) (nI f) (nI b) number = (1, (upd (upd rd ((51 + rd 2).toNatClampNeg) (nI v)) 2 ((upd rd ((51 + rd 2).toNatClampNeg) (nI v)) 2 + 1)), nI f2, nI q, nI v) := by
        unfold f_X7_takesRumour
        rw [if_neg h8, r7]
        dsimp only
        rw [if_neg i10]
      rw [read1 (by omega) (by omega) hk ewh hcs (by rw [if_neg (by omega)]) (by rw [if_neg (by omega)]) r6, etc, et, countIn_at P R 5 (by omega), if_neg (by omega), if_pos rfl, put42_0 hk]
      have hv : v ≤ 63 := by have : ((v : Nat) : Int) ≤ 63 := v4; omega
      obtain ⟨g1, g2⟩ := hear_rumour hT c hv (nums (3 * k + 1)) (nums (3 * k + 2))
      refine Or.inr ⟨rfl, rfl, B, P, R + 1, f2, rfl, rfl, rfl, rfl, v1, fun j hj => un (by omega), fun j hj => un (by omega), ?_⟩
      show RTH B P (R + 1) (hearAt (upd wrds k (nI 5)) (upd nums (3 * k) (nI v)) k z) (upd (upd rd ((51 + rd 2).toNatClampNeg) (nI v)) 2 ((upd rd ((51 + rd 2).toNatClampNeg) (nI v)) 2 + 1))
      rw [heard1 hk, show nI 5 = (5 : Int32) from rfl, g1]
      exact g2
  · rw [if_neg c] at hcs
    have h8 : rd 2 = 8 := by rw [t2, show R = 8 by omega]; rfl
    have et : f_X7_takesRumour rd text (nI n) (nI f) (nI b) number = (0, rd, nI f, nI b, number) := by
      unfold f_X7_takesRumour
      rw [if_pos h8]
    rw [clause_bar ewh hcs, etc, et]
    exact Or.inl ⟨rfl, rfl, rfl, nI_nem1 (by omega)⟩
/-- the class's clause with three numbers -/
theorem read3 {k b f : Nat} (hk : k < 14) (hcs : f_X1_canStand (nI P) (nI R) (nI 6) = 1) (ewh : f_X1_wordHere (nI b) (nI f) lets = nI 6) {fl q X : Int32} {nums2 : Nat → Int32} (h0 : v_X1_readClause_80_0 (nI n) (nI k) (nI P) (nI R) (nI b) (nI f) lets nums = fl) (h1 : v_X1_readClause_80_1 (nI n) (nI k) (nI P) (nI R) (nI b) (nI f) lets nums = q) (h2 : v_X1_readClause_80_2 (nI n) (nI k) (nI P) (nI R) (nI b) (nI f) lets nums = X) (h3 : v_X1_readClause_80_3 (nI n) (nI k) (nI P) (nI R) (nI b) (nI f) lets nums = nums2) :
    f_X1_readClause (nI n) (nI k) (nI P) (nI R) (nI b) (nI f) lets wrds nums = (fl, nI P, nI R, q, X, upd wrds k (nI 6), nums2) := by
  unfold f_X1_readClause
  rw [ewh, hcs, if_neg i10, put_in (by omega) (by omega), if_neg (show ¬ nI 6 = (4 : Int32) by decide), if_pos (show nI 6 = (6 : Int32) from rfl), h0, h1, h2, h3, countIn_at P R 6 (by omega), if_neg (by omega), if_neg (by omega), if_pos rfl]
theorem cl_beard (h : TXT n tx lets text) {k b f e : Nat} (hk : k < 14) (hb : b ≤ n) (hf : f ≤ n) (hT : RTH B P R z rd) (ewh : f_X1_wordHere (nI b) (nI f) lets = nI 6) {number : Int32} (ew : f_X7_takesWord text (nI n) (nI e) = (nI f, nI b, 422607680100)) :
    Cl n k wrds nums z (f_X1_readClause (nI n) (nI k) (nI P) (nI R) (nI b) (nI f) lets wrds nums) (f_X7_takesClause rd text (nI n) (nI e) number) := by
  have hn := h.1
  obtain ⟨e0, e1, e2, b1, b2, b3, b4⟩ := hT.B
  obtain ⟨t0, t1, t2⟩ := hT.t
  have hcs := canStand_at b3 b4 (show 6 < 7 by omega)
  rw [if_pos (by omega)] at hcs
  have ecn : (f_X1_countIn (nI P) (nI R) (f_X1_wordHere (nI b) (nI f) lets)).1 = nI P := by
    rw [ewh, countIn_at P R 6 (by omega), if_neg (by omega), if_neg (by omega), if_pos rfl]
  have hpm : (nI P - 1).toInt = (P : Int) - 1 := by
    have := pred_toInt (P := P) (by omega)
    rw [ktl] at this
    exact this
  obtain ⟨q, q1, hq⟩ := num_at h hf 0 (nI P - 1) (by decide) (nI k) 0 nums
  rcases hq with ⟨X, A, N, r6, r7⟩ | ⟨f2, v, v1, v2, v3, v4, r6, r7⟩
  · have et : f_X7_takesBeard rd text (nI n) (nI f) = (0, rd, A, nI q, N) := by
      unfold f_X7_takesBeard
      rw [t1, r7]
      dsimp only
      rw [if_pos rfl]
    rw [tc_beard ew (Or.inl rfl) et]
    rw [read3 hk hcs ewh (fl := 0) (q := nI q) (X := X) (nums2 := nums) ?_ ?_ ?_ ?_]
    · exact Or.inl ⟨rfl, rfl, rfl, nI_nem1 (by omega)⟩
    · unfold v_X1_readClause_80_0
      rw [ecn, r6]
      dsimp only
      rw [if_pos rfl]
    · unfold v_X1_readClause_80_1
      rw [ecn, r6]
      dsimp only
      rw [if_pos rfl]
    · unfold v_X1_readClause_80_2
      rw [ecn, r6]
      dsimp only
      rw [if_pos rfl]
    · unfold v_X1_readClause_80_3
      rw [ecn, r6]
      dsimp only
      rw [if_pos rfl]
  · rw [put42_0 hk] at r6
    have hvP : v < P := by rw [hpm] at v4; omega
    obtain ⟨q', q1', hq'⟩ := num_at h v1 0 5 (by decide) (nI k) 1 (upd nums (3 * k) (nI v))
    rcases hq' with ⟨X, A, N, s6, s7⟩ | ⟨f3, u, u1, u2, u3, u4, s6, s7⟩
    · have et : f_X7_takesBeard rd text (nI n) (nI f) = (0, rd, A, nI q', N) := by
        unfold f_X7_takesBeard
        rw [t1, r7]
        dsimp only
        rw [if_neg i10, s7]
        dsimp only
        rw [if_pos rfl]
      rw [tc_beard ew (Or.inl rfl) et]
      rw [read3 hk hcs ewh (fl := 0) (q := nI q') (X := X) (nums2 := upd nums (3 * k) (nI v)) ?_ ?_ ?_ ?_]
      · exact Or.inl ⟨rfl, rfl, rfl, nI_nem1 (by omega)⟩
      · unfold v_X1_readClause_80_0
        rw [ecn, r6]
        dsimp only
        rw [if_neg i10, s6]
        dsimp only
        rw [if_pos rfl]
      · unfold v_X1_readClause_80_1
        rw [ecn, r6]
        dsimp only
        rw [if_neg i10, s6]
        dsimp only
        rw [if_pos rfl]
      · unfold v_X1_readClause_80_2
        rw [ecn, r6]
        dsimp only
        rw [if_neg i10, s6]
        dsimp only
        rw [if_pos rfl]
      · unfold v_X1_readClause_80_3
        rw [ecn, r6]
        dsimp only
        rw [if_neg i10, s6]
        dsimp only
        rw [if_pos rfl]
    · rw [put42_1 hk] at s6
      have hu5 : u < 6 := by have : ((u : Nat) : Int) ≤ 5 := u4; omega
      obtain ⟨q'', q1'', hq''⟩ := num_at h u1 0 9 (by decide) (nI k) 2 (upd (upd nums (3 * k) (nI v)) (3 * k + 1) (nI u))
      rcases hq'' with ⟨X, A, N, w6, w7⟩ | ⟨f4, d, d1, d2, d3, d4, w6, w7⟩
      · have et : f_X7_takesBeard rd text (nI n) (nI f) = (0, rd, A, nI q'', N) := by
          unfold f_X7_takesBeard
          rw [t1, r7]
          dsimp only
          rw [if_neg i10, s7]
          dsimp only
          rw [if_neg i10, w7]
          dsimp only
          rw [if_pos rfl]
        rw [tc_beard ew (Or.inl rfl) et]
        rw [read3 hk hcs ewh (fl := 0) (q := nI q'') (X := X) (nums2 := upd (upd nums (3 * k) (nI v)) (3 * k + 1) (nI u)) ?_ ?_ ?_ ?_]
        · exact Or.inl ⟨rfl, rfl, rfl, nI_nem1 (by omega)⟩
        · unfold v_X1_readClause_80_0
          rw [ecn, r6]
          dsimp only
          rw [if_neg i10, s6]
          dsimp only
          rw [if_neg i10, w6]
          dsimp only
          rw [if_pos rfl]
        · unfold v_X1_readClause_80_1
          rw [ecn, r6]
          dsimp only
          rw [if_neg i10, s6]
          dsimp only
          rw [if_neg i10, w6]
          dsimp only
          rw [if_pos rfl]
        · unfold v_X1_readClause_80_2
          rw [ecn, r6]
          dsimp only
          rw [if_neg i10, s6]
          dsimp only
          rw [if_neg i10, w6]
          dsimp only
          rw [if_pos rfl]
        · unfold v_X1_readClause_80_3
          rw [ecn, r6]
          dsimp only
          rw [if_neg i10, s6]
          dsimp only
          rw [if_neg i10, w6]
          dsimp only
          rw [if_pos rfl]
      · rw [put42_2 hk] at w6
        have hd9 : d ≤ 9 := by have : ((d : Nat) : Int) ≤ 9 := d4; omega
        have et : f_X7_takesBeard rd text (nI n) (nI f) = (1, upd rd (((15 + (6 * nI v)) + nI u).toNatClampNeg) (nI d), nI f4, nI q'', nI d) := by
          unfold f_X7_takesBeard
          rw [t1, r7]
          dsimp only
          rw [if_neg i10, s7]
          dsimp only
          rw [if_neg i10, w7]
          dsimp only
          rw [if_neg i10]
        rw [tc_beard ew (Or.inr rfl) et]
        rw [read3 hk hcs ewh (fl := 1) (q := nI q'') (X := nI f4) (nums2 := upd (upd (upd nums (3 * k) (nI v)) (3 * k + 1) (nI u)) (3 * k + 2) (nI d)) ?_ ?_ ?_ ?_]
        · obtain ⟨g1, g2⟩ := hear_beard hT hvP hu5 hd9
          refine Or.inr ⟨rfl, rfl, B, P, R, f4, rfl, rfl, rfl, rfl, d1, fun j hj => un (by omega), fun j hj => ?_, ?_⟩
          · dsimp only
            rw [un (by omega), un (by omega), un (by omega)]
          · show RTH B P R (hearAt (upd wrds k (nI 6)) (upd (upd (upd nums (3 * k) (nI v)) (3 * k + 1) (nI u)) (3 * k + 2) (nI d)) k z) (upd rd (((15 + (6 * nI v)) + nI u).toNatClampNeg) (nI d))
            rw [hearAt_eq hk, us, un (show 3 * k ≠ 3 * k + 2 by omega), un (show 3 * k ≠ 3 * k + 1 by omega), us, un (show 3 * k + 1 ≠ 3 * k + 2 by omega), us, us, show nI 6 = (6 : Int32) from rfl, g1]
            exact g2
        · unfold v_X1_readClause_80_0
          rw [ecn, r6]
          dsimp only
          rw [if_neg i10, s6]
          dsimp only
          rw [if_neg i10, w6]
          dsimp only
          rw [if_neg i10]
        · unfold v_X1_readClause_80_1
          rw [ecn, r6]
          dsimp only
          rw [if_neg i10, s6]
          dsimp only
          rw [if_neg i10, w6]
          dsimp only
          rw [if_neg i10]
        · unfold v_X1_readClause_80_2
          rw [ecn, r6]
          dsimp only
          rw [if_neg i10, s6]
          dsimp only
          rw [if_neg i10, w6]
          dsimp only
          rw [if_neg i10]
        · unfold v_X1_readClause_80_3
          rw [ecn, r6]
          dsimp only
          rw [if_neg i10, s6]
          dsimp only
          rw [if_neg i10, w6]
          dsimp only
          rw [if_neg i10]
end CK
