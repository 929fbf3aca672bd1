section CR
variable {n : Nat} {tx : Nat → Nat} {lets text : Nat → Int32} {B P R : Nat} {z : TS} {rd wrds nums : Nat → Int32}
theorem clause_at (h : TXT n tx lets text) {e : Nat} (he : e ≤ n) {k : Nat} (hk : k < 14) (hT : RTH B P R z rd) (number : Int32) :
    ∃ b f, b ≤ n ∧ f ≤ n ∧ f_X1_step (nI n) (nI e) lets = (nI b, nI f) ∧ Cl n k wrds nums z (f_X1_readClause (nI n) (nI k) (nI P) (nI R) (nI b) (nI f) lets wrds nums) (f_X7_takesClause rd text (nI n) (nI e) number) := by
  have hn := h.1
  obtain ⟨b, f, b1, f1, bf, b2, est, ebe, sb, sf⟩ := step_at h he
  obtain ⟨r, r1, r2, ew⟩ := word7 h b1 ebe
  refine ⟨b, f, b1, f1, est, ?_⟩
  have hbr := r2.1
  have hsm : ∀ q, q < r - b → SoAt n tx 1 (b + q) := fun q hq => r2.2.1 (b + q) (by omega) (by omega)
  have hsp : ∀ i, i < 7 → so (spN i 0) = 1 := by
    have key : ∀ i : Fin 7, so (spN i.1 0) = 1 := by decide +kernel
    exact fun i hi => key ⟨i, hi⟩
  have hrf : ∀ i, i < 7 → (Mt tx i b (f - b) ∨ Mt tx i b (r - b)) → r = f := by
    intro i hi hm
    have h4 := (kSl_le i hi).2
    have e0 : tx b = spN i 0 ∧ b < n := by
      rcases hm with hm | hm
      · have e1 := hm.1
        exact ⟨hm.2 0 (by omega), by omega⟩
      · have e1 := hm.1
        exact ⟨hm.2 0 (by omega), by omega⟩
    have e1 : so (tx b) = 1 := by rw [e0.1]; exact hsp i hi
    have hE := (sf e0.2).2.2 (by rw [e1]; omega)
    rw [e1] at hE
    exact r2.uniq hE
  rcases wordHere_at h bf f1 with ⟨i, hi, hm, hno, ewh⟩ | ⟨hno, ewh⟩
  · have e1 := hrf i hi (Or.inl hm)
    subst e1
    match i, hi, hm, ewh with
    | 0, _, hm, ewh => exact cl_one h (i := 0) (by omega) hk b1 f1 hT ewh (tc_one0 (by rw [ew, (wv0 hsm).mpr hm]))
    | 1, _, hm, ewh => exact cl_one h (i := 1) (by omega) hk b1 f1 hT ewh (tc_one1 (by rw [ew, (wv1 hsm).mpr hm]))
    | 2, _, hm, ewh => exact cl_one h (i := 2) (by omega) hk b1 f1 hT ewh (tc_one2 (by rw [ew, (wv2 hsm).mpr hm]))
    | 3, _, hm, ewh => exact cl_one h (i := 3) (by omega) hk b1 f1 hT ewh (tc_one3 (by rw [ew, (wv3 hsm).mpr hm]))
    | 4, _, hm, ewh => exact cl_town h hk b1 f1 hT ewh (tc_town (by rw [ew, (wv4 hsm).mpr hm]))
    | 5, _, hm, ewh => exact cl_rumour h hk b1 f1 hT ewh (tc_rumour (by rw [ew, (wv5 hsm).mpr hm]))
    | 6, _, hm, ewh => exact cl_beard h hk b1 f1 hT ewh (by rw [ew, (wv6 hsm).mpr hm])
    | i + 7, hi, _, _ => exact absurd hi (by omega)
  · have hnone : ∀ i, i < 7 → ¬ Mt tx i b (r - b) := by
      intro i hi hm
      have e1 := hrf i hi (Or.inr hm)
      rw [e1] at hm
      exact hno i hi hm
    rw [clause_none ewh, tc_none ew ⟨fun q => hnone 0 (by omega) ((wv0 hsm).mp q), fun q => hnone 1 (by omega) ((wv1 hsm).mp q), fun q => hnone 2 (by omega) ((wv2 hsm).mp q), fun q => hnone 3 (by omega) ((wv3 hsm).mp q), fun q => hnone 4 (by omega) ((wv4 hsm).mp q), fun q => hnone 5 (by omega) ((wv5 hsm).mp q), fun q => hnone 6 (by omega) ((wv6 hsm).mp q)⟩]
    exact Or.inl ⟨rfl, rfl, rfl, nI_nem1 (by omega)⟩
theorem ra_succ {len : Int32} {k20 : Nat} {ncl spe sru sbe sen : Int32} {C : Int32 × Int32 × Int32 × Int32 × Int32 × (Nat → Int32) × (Nat → Int32)} {S : Int32 × Int32} (eC : f_X1_readClause len ncl spe sru (f_X1_step len sen lets).1 (f_X1_step len sen lets).2 lets wrds nums = C) (eS : f_X1_step len C.2.2.2.2.1 lets = S) :
    lo_X1_readAll_20 len lets (k20 + 1) ncl spe sru sbe sen wrds nums = if C.1 = 0 then (C.2.2.2.1, ncl, C.2.1, C.2.2.1, C.2.2.2.1, C.2.2.2.2.1, C.2.2.2.2.2.1, C.2.2.2.2.2.2) else (if S.1 < len then (if 14 ≤ ncl + 1 then (S.1, ncl + 1, C.2.1, C.2.2.1, S.1, S.2, C.2.2.2.2.2.1, C.2.2.2.2.2.2) else (if f_X0_at 160 lets S.1 = 59 then lo_X1_readAll_20 len lets k20 (ncl + 1) C.2.1 C.2.2.1 S.1 S.2 C.2.2.2.2.2.1 C.2.2.2.2.2.2 else (S.1, ncl + 1, C.2.1, C.2.2.1, S.1, S.2, C.2.2.2.2.2.1, C.2.2.2.2.2.2))) else (-1, ncl + 1, C.2.1, C.2.2.1, S.1, S.2, C.2.2.2.2.2.1, C.2.2.2.2.2.2)) := by
  subst eC; subst eS; rfl
theorem rd_succ {texted : Int32} {k36 : Nat} {at_ start clauses number : Int32} {word : Int64} {M : Int32 × (Nat → Int32) × Int32 × Int32 × Int32 × Int64} {G : Int32 × Int32} (eM : f_X7_takesClause rd text texted at_ number = M) (eG : f_X7_begins text texted M.2.2.1 = G) :
    lo_X7_reads_36 text texted (k36 + 1) rd at_ start clauses number word = if M.1 = 0 then (M.2.2.2.1, M.2.1, M.2.2.1, M.2.2.2.1, clauses, M.2.2.2.2.1, M.2.2.2.2.2) else (if G.1 = texted then (-1, M.2.1, G.1, G.2, clauses + 1, M.2.2.2.2.1, M.2.2.2.2.2) else (if f_X7_letterAt text texted G.1 = 59 then (if clauses + 1 = 14 then (G.2, M.2.1, G.1, G.2, clauses + 1, M.2.2.2.2.1, M.2.2.2.2.2) else lo_X7_reads_36 text texted k36 M.2.1 (G.1 + 1) G.2 (clauses + 1) M.2.2.2.2.1 M.2.2.2.2.2) else (G.2, M.2.1, G.1, G.2, clauses + 1, M.2.2.2.2.1, M.2.2.2.2.2))) := by
  subst eM; subst eG; rfl
def hearFold (wrds nums : Nat → Int32) (z0 : TS) (K : Nat) : TS := lp (fun j z => hearAt wrds nums j z) z0 K
theorem hearFold_congr {wrds nums wrds' nums' : Nat → Int32} (z0 : TS) {K : Nat} (hK : K ≤ 14) (hw : ∀ j, j < K → wrds' j = wrds j) (hnu : ∀ j, j < 3 * K → nums' j = nums j) : hearFold wrds' nums' z0 K = hearFold wrds nums z0 K := by
  unfold hearFold
  refine lp_congr K (fun i z hi => ?_)
  rw [hearAt_eq (by omega), hearAt_eq (by omega), hw i hi, hnu _ (by omega), hnu _ (by omega), hnu _ (by omega)]
/-- both readers come to the same place, and heard the same -/
def Rd (z0 : TS) (C : Int32 × Int32 × Int32 × Int32 × Int32 × Int32 × (Nat → Int32) × (Nat → Int32)) (M : Int32 × (Nat → Int32) × Int32 × Int32 × Int32 × Int32 × Int64) : Prop :=
  C.1 = M.1 ∧ (C.1 = -1 → ∃ K B P R : Nat, K ≤ 14 ∧ C.2.1 = nI K ∧ M.2.2.2.2.1 = nI K ∧ RTH B P R (hearFold C.2.2.2.2.2.2.1 C.2.2.2.2.2.2.2 z0 K) M.2.1)
theorem readAll_eq (h : TXT n tx lets text) (z0 : TS) : ∀ (fuel k e B P R : Nat) (wrds nums rd : Nat → Int32) (sbe start number : Int32) (word : Int64), k + fuel = 15 → k ≤ 13 → e ≤ n → RTH B P R (hearFold wrds nums z0 k) rd → Rd z0 (lo_X1_readAll_20 (nI n) lets fuel (nI k) (nI P) (nI R) sbe (nI e) wrds nums) (lo_X7_reads_36 text (nI n) fuel rd (nI e) start (nI k) number word) := by
  have hn := h.1
  intro fuel
  induction fuel with
  | zero => exact fun k _ _ _ _ _ _ _ _ _ _ _ h1 h2 => absurd h1 (by omega)
  | succ fuel ih =>
    intro k e B P R wrds nums rd sbe start number word hk hk13 he hT
    obtain ⟨b, f, b1, f1, est, hCl⟩ := clause_at (wrds := wrds) (nums := nums) h he (k := k) (by omega) hT number
    obtain ⟨C, eC⟩ : ∃ C, f_X1_readClause (nI n) (nI k) (nI P) (nI R) (nI b) (nI f) lets wrds nums = C := ⟨_, rfl⟩
    obtain ⟨M, eM⟩ : ∃ M, f_X7_takesClause rd text (nI n) (nI e) number = M := ⟨_, rfl⟩
    rw [eC, eM] at hCl
    have eC' : f_X1_readClause (nI n) (nI k) (nI P) (nI R) (f_X1_step (nI n) (nI e) lets).1 (f_X1_step (nI n) (nI e) lets).2 lets wrds nums = C := by rw [est]; exact eC
    rcases hCl with ⟨c1, c2, c3, c4⟩ | ⟨c1, c2, B2, P2, R2, e2, c3, c4, c5, c6, c7, c8, c9, c10⟩
    · rw [ra_succ eC' rfl, rd_succ eM rfl, if_pos c1, if_pos c2]
      exact ⟨c3, fun q => absurd q c4⟩
    · obtain ⟨b', f', b1', f1', bf', b2', est', ebe', sb', sf'⟩ := step_at h c7
      have eS : f_X1_step (nI n) C.2.2.2.2.1 lets = (nI b', nI f') := by rw [c5]; exact est'
      have eG : f_X7_begins text (nI n) M.2.2.1 = (nI b', nI b') := by rw [c6]; exact ebe'
      have hc10 : RTH B2 P2 R2 (hearFold C.2.2.2.2.2.1 C.2.2.2.2.2.2 z0 (k + 1)) M.2.1 := by
        show RTH B2 P2 R2 (hearAt C.2.2.2.2.2.1 C.2.2.2.2.2.2 k (hearFold C.2.2.2.2.2.1 C.2.2.2.2.2.2 z0 k)) M.2.1
        rw [hearFold_congr z0 (by omega) c8 c9]
        exact c10
      rw [ra_succ eC' eS, rd_succ eM eG, if_neg (show ¬ C.1 = 0 by rw [c1]; exact i10), if_neg (show ¬ M.1 = 0 by rw [c2]; exact i10)]
      dsimp only
      rw [nI_1]
      by_cases cb : b' < n
      · rw [if_pos ((nI_ltI (by omega) (by omega)).mpr cb), if_neg (lits b' n (by omega) (by omega) (by omega)), letterAt_in h cb, let_at h cb]
        by_cases ck : k + 1 = 14
        · rw [if_pos (show (14 : Int32) ≤ nI (k + 1) from (nI_leI (a := 14) (by omega) (by omega)).mpr (by omega)), if_pos (show nI (k + 1) = (14 : Int32) by rw [ck]; rfl), ite_self]
          exact ⟨rfl, fun q => absurd q (nI_nem1 (by omega))⟩
        · rw [if_neg (show ¬ (14 : Int32) ≤ nI (k + 1) from fun q => absurd ((nI_leI (a := 14) (by omega) (by omega)).mp q) (by omega)), if_neg (show ¬ nI (k + 1) = (14 : Int32) from lits _ 14 (by omega) (by omega) ck)]
          by_cases c59 : tx b' = 59
          · have hso : so (tx b') = 0 := by rw [c59]; rfl
            have ef := (sf' cb).2.1 hso
            rw [c59, if_pos (show nI 59 = (59 : Int32) from rfl), if_pos (show nI 59 = (59 : Int32) from rfl), nI_1, c3, c4, ef]
            exact ih (k + 1) (b' + 1) B2 P2 R2 _ _ _ _ _ _ _ (by omega) (by omega) (by omega) hc10
          · have h256 := (h.2 b' cb).2.2
            rw [if_neg (show ¬ nI (tx b') = (59 : Int32) from lits _ 59 (by omega) (by omega) c59), if_neg (show ¬ nI (tx b') = (59 : Int32) from lits _ 59 (by omega) (by omega) c59)]
            exact ⟨rfl, fun q => absurd q (nI_nem1 (by omega))⟩
      · have eb : b' = n := by omega
        rw [if_neg (fun q => absurd ((nI_ltI (by omega) (by omega)).mp q) cb), if_pos (by rw [eb])]
        exact ⟨rfl, fun _ => ⟨k + 1, B2, P2, R2, by omega, rfl, rfl, hc10⟩⟩
end CR
