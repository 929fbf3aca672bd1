/-! bits -/
def bt (x : Int32) (j : Nat) : Bool := x.toBitVec.getLsbD j
theorem bt_or (x y : Int32) (j : Nat) : bt (x ||| y) j = (bt x j || bt y j) := by
  unfold bt; rw [Int32.toBitVec_or, BitVec.getLsbD_or]
theorem bt_and (x y : Int32) (j : Nat) : bt (x &&& y) j = (bt x j && bt y j) := by
  unfold bt; rw [Int32.toBitVec_and, BitVec.getLsbD_and]
theorem bt_xor (x y : Int32) (j : Nat) : bt (x ^^^ y) j = (bt x j ^^ bt y j) := by
  unfold bt; rw [Int32.toBitVec_xor, BitVec.getLsbD_xor]
theorem bt_m1 (j : Nat) (h : j < 32) : bt (-1) j = true := by
  have key : ∀ i : Fin 32, bt (-1) i.1 = true := by decide +kernel
  exact key ⟨j, h⟩
theorem bt_0 (j : Nat) : bt 0 j = false := by
  show (0#32).getLsbD j = false
  simp
theorem bt_not (x : Int32) (j : Nat) (h : j < 32) : bt (x ^^^ (-1)) j = !bt x j := by
  rw [bt_xor, bt_m1 j h, Bool.xor_true]
theorem bt_ext {x y : Int32} (h : ∀ j, j < 32 → bt x j = bt y j) : x = y :=
  Int32.toBitVec_inj.mp (BitVec.eq_of_getLsbD_eq (fun i hi => h i hi))
theorem bt_one (i j : Nat) (hi : i < 32) (hj : j < 32) : bt (1 <<< (nI i &&& 31)) j = decide (j = i) := by
  have key : ∀ a b : Fin 32, bt (1 <<< (nI a.1 &&& 31)) b.1 = decide (b.1 = a.1) := by decide +kernel
  exact key ⟨i, hi⟩ ⟨j, hj⟩
theorem bt_shr1 (x : Int32) (i : Nat) (hi : i < 32) : ((x >>> (nI i &&& 31)) &&& 1) = if bt x i then 1 else 0 := by
  have k1 : ∀ a : Fin 32, ((nI a.1 &&& 31).toBitVec.smod 32).toNat = a.1 := by decide +kernel
  have e : ((x >>> (nI i &&& 31)) &&& 1).toBitVec = (x.toBitVec.sshiftRight i) &&& 1#32 := by
    rw [Int32.toBitVec_and, Int32.toBitVec_shiftRight]
    show (x.toBitVec.sshiftRight ((nI i &&& 31).toBitVec.smod 32).toNat) &&& 1#32 = _
    rw [k1 ⟨i, hi⟩]
  refine Int32.toBitVec_inj.mp ?_
  rw [e, BitVec.and_one_eq_setWidth_ofBool_getLsbD, BitVec.getLsbD_sshiftRight]
  have e2 : (!decide (32 ≤ 0) && if i + 0 < 32 then x.toBitVec.getLsbD (i + 0) else x.toBitVec.msb) = bt x i := by
    rw [Nat.add_zero, if_pos hi]; rfl
  rw [e2]
  cases bt x i <;> rfl
theorem has6_bt (x : Int32) (i : Nat) (hi : i < 32) : f_X6_has x (nI i) = if bt x i then 1 else 0 := by
  unfold f_X6_has v_X6_has_6_0
  rw [bt_shr1 x i hi]
  cases bt x i <;> rfl
theorem has7_bt (x : Int32) (i : Nat) (hi : i < 32) : f_X7_has x (nI i) = if bt x i then 1 else 0 := has6_bt x i hi
theorem has67 (x y : Int32) : f_X7_has x y = f_X6_has x y := rfl
theorem nI_or (a b : Nat) : nI a ||| nI b = nI (a ||| b) := by
  refine Int32.toBitVec_inj.mp ?_
  rw [Int32.toBitVec_or]
  show BitVec.ofNat 32 a ||| BitVec.ofNat 32 b = BitVec.ofNat 32 (a ||| b)
  exact BitVec.ofNat_or.symm
theorem nI_and (a b : Nat) : nI a &&& nI b = nI (a &&& b) := by
  refine Int32.toBitVec_inj.mp ?_
  rw [Int32.toBitVec_and]
  show BitVec.ofNat 32 a &&& BitVec.ofNat 32 b = BitVec.ofNat 32 (a &&& b)
  exact BitVec.ofNat_and.symm
theorem one_shl (i : Nat) (h : i < 31) : (1 : Int32) <<< (nI i &&& 31) = nI (2 ^ i) := by
  have key : ∀ a : Fin 31, (1 : Int32) <<< (nI a.1 &&& 31) = nI (2 ^ a.1) := by decide +kernel
  exact key ⟨i, h⟩
/-- below a power of two -/
def bw (n : Nat) (x : Int32) : Prop := ∀ j, n ≤ j → j < 32 → bt x j = false
theorem bw_kb {n : Nat} {x : Int32} (hn : n < 31) : bw n x ↔ kb x 0 (2 ^ n) := by
  constructor
  · intro h
    have hx : x.toBitVec.toNat < 2 ^ n := by
      refine Nat.lt_of_not_le (fun hle => ?_)
      have h1 : x.toBitVec.toNat < 2 ^ 32 := x.toBitVec.isLt
      obtain ⟨j, hj1, hj2⟩ := Nat.exists_ge_and_testBit_of_ge_two_pow hle
      have hj3 : j < 32 := by
        refine Nat.lt_of_not_le (fun hle2 => ?_)
        rw [Nat.testBit_lt_two_pow (Nat.lt_of_lt_of_le h1 (Nat.pow_le_pow_right (by omega) hle2))] at hj2
        cases hj2
      have h4 := h j hj1 hj3
      unfold bt at h4
      rw [BitVec.getLsbD] at h4
      rw [h4] at hj2
      cases hj2
    refine ⟨x.toBitVec.toNat, Nat.zero_le _, hx, ?_⟩
    refine Int32.toBitVec_inj.mp ?_
    show _ = BitVec.ofNat 32 _
    rw [BitVec.ofNat_toNat, BitVec.setWidth_eq]
  · intro ⟨a, _, ha, e⟩ j hj hj2
    subst e
    show (BitVec.ofNat 32 a).getLsbD j = false
    rw [BitVec.getLsbD_ofNat, Nat.testBit_lt_two_pow (Nat.lt_of_lt_of_le ha (Nat.pow_le_pow_right (by omega) hj))]
    simp
theorem bw_or {n : Nat} {x y : Int32} (hx : bw n x) (hy : bw n y) : bw n (x ||| y) := fun j h1 h2 => by rw [bt_or, hx j h1 h2, hy j h1 h2]; rfl
theorem bw_and {n : Nat} {x : Int32} (y : Int32) (hx : bw n x) : bw n (x &&& y) := fun j h1 h2 => by rw [bt_and, hx j h1 h2]; rfl
theorem bw_and' {n : Nat} {x : Int32} (y : Int32) (hx : bw n x) : bw n (y &&& x) := fun j h1 h2 => by rw [bt_and, hx j h1 h2]; simp
theorem bw_one {n i : Nat} (h : i < n) (hn : n < 32) : bw n (1 <<< (nI i &&& 31)) := fun j h1 h2 => by rw [bt_one i j (by omega) h2]; simp; omega
theorem bw_0 {n : Nat} : bw n 0 := fun j _ _ => bt_0 j
theorem bw_ext {n : Nat} {x y : Int32} (hx : bw n x) (hy : bw n y) (h : ∀ j, j < n → bt x j = bt y j) : x = y := bt_ext fun j hj => by
  by_cases hn : j < n
  · exact h j hn
  · rw [hx j (by omega) hj, hy j (by omega) hj]
/-! counts of bits -/
theorem cnt_ones {x : Int32} (h : kb x 0 64) : f_J6_bitCount_0f7a4 x = f_X7_ones x := by
  have key : ∀ a : Fin 64, f_J6_bitCount_0f7a4 (nI a.1) = f_X7_ones (nI a.1) := by decide +kernel
  obtain ⟨a, -, ha, rfl⟩ := h
  exact key ⟨a, ha⟩
theorem cnt_many {x : Int32} (h : kb x 0 256) : f_J6_bitCount_0f7a4 x = f_X7_many x := by
  have key : ∀ a : Fin 256, f_J6_bitCount_0f7a4 (nI a.1) = f_X7_many (nI a.1) := by decide +kernel
  obtain ⟨a, -, ha, rfl⟩ := h
  exact key ⟨a, ha⟩
theorem ones_0 {x : Int32} (h : kb x 0 64) : f_X7_ones x = 0 ↔ x = 0 := by
  have key : ∀ a : Fin 64, f_X7_ones (nI a.1) = 0 ↔ a.1 = 0 := by decide +kernel
  obtain ⟨a, -, ha, rfl⟩ := h
  rw [key ⟨a, ha⟩]
  exact (nI_eq (a := a) (b := 0) (by omega) (by omega)).symm
/-! rumours that fit -/
theorem fit_iff {r k p : Int32} (h : p &&& k = p) : ((r ^^^ p) &&& k) = 0 ↔ (r &&& k) = p := by
  constructor
  · intro e
    refine bt_ext fun j hj => ?_
    have h1 := congrArg (fun z => bt z j) e
    have h2 := congrArg (fun z => bt z j) h
    simp only [bt_and, bt_xor, bt_0] at h1 h2 ⊢
    revert h1 h2
    cases bt r j <;> cases bt k j <;> cases bt p j <;> simp
  · intro e
    refine bt_ext fun j hj => ?_
    have h1 := congrArg (fun z => bt z j) e
    have h2 := congrArg (fun z => bt z j) h
    simp only [bt_and, bt_xor, bt_0] at h1 h2 ⊢
    revert h1 h2
    cases bt r j <;> cases bt k j <;> cases bt p j <;> simp
theorem fits_eq {B P R : Nat} {tb tp tr : Int32} {knd sec brd rms told : Nat → Int32} (hT : RT B P R tb tp tr knd sec brd rms told) {k p : Int32} (h : p &&& k = p) : f_X5_fitting tr rms k p = f_X7_fitsBy told k p := by
  obtain ⟨⟨-, -, e, -, -, -, hR⟩, ⟨-, -, t2⟩, -, -, -, h6⟩ := hT
  subst e
  unfold f_X5_fitting x_X5_fitting_5 f_X7_fitsBy x_X7_fitsBy_5
  rw [t2, cl (by omega)]
  refine lp_congr R (fun i z hi => ?_)
  show (if ((f_X0_at 8 rms (nI i) ^^^ p) &&& k) = 0 then (z ||| (1 <<< (nI i &&& 31))) else z) = z ||| (if ((told ((51 + nI i).toNatClampNeg)) &&& k) = p then (1 <<< (nI i &&& 31)) else 0)
  rw [at_in (by omega) (by omega), am51 i (by omega), (h6 i hi).1]
  by_cases c : (told (51 + i) &&& k) = p
  · rw [if_pos ((fit_iff h).mpr c), if_pos c]
  · rw [if_neg (fun e => c ((fit_iff h).mp e)), if_neg c, Int32.or_zero]
theorem fits_bw {told : Nat → Int32} {R : Nat} (hR : R ≤ 8) (t2 : told 2 = nI R) (k p : Int32) : bw 8 (f_X7_fitsBy told k p) := by
  unfold f_X7_fitsBy x_X7_fitsBy_5
  rw [t2, cl (by omega)]
  refine lp_ind (fun _ z => bw 8 z) R bw_0 (fun i z hi ih => ?_)
  show bw 8 (z ||| (if ((told ((51 + nI i).toNatClampNeg)) &&& k) = p then (1 <<< (nI i &&& 31)) else 0))
  refine bw_or ih ?_
  split
  · exact bw_one (by omega) (by omega)
  · exact bw_0
theorem fits_kb {told : Nat → Int32} {R : Nat} (hR : R ≤ 8) (t2 : told 2 = nI R) (k p : Int32) : kb (f_X7_fitsBy told k p) 0 256 := (bw_kb (n := 8) (by omega)).mp (fits_bw hR t2 k p)
