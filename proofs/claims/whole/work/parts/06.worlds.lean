/-! the surroundings of the class's methods: nest mates' links, the strings, two statics of the JDK -/
def kSi : Nat → Nat := fun i => [103, 105, 107, 109, 111, 113, 115].getD i 0
def kSt : Nat → String := fun i => ["plain", "bailed", "reserved", "nicked", "town", "rumour", "beard"].getD i ""
def kSl : List Nat := [5, 6, 8, 6, 4, 6, 5]
def kSb : List (List Int32) := [[112, 108, 97, 105, 110], [98, 97, 105, 108, 101, 100], [114, 101, 115, 101, 114, 118, 101, 100], [110, 105, 99, 107, 101, 100], [116, 111, 119, 110], [114, 117, 109, 111, 117, 114], [98, 101, 97, 114, 100]]
def kG (adK adV : Nat → Nat) : kE := fun A U =>
  (va_Nw (.methodLinkNest RX5 74 yX6_telling "RazorTalk") U ∧ va_Nw (.methodLinkNest RX5 81 yX6_has "RazorTalk") U ∧ va_Nw (.methodLinkNest RX4 63 yX6_replaced "RazorTalk") U) ∧
  vk_S 7 kSl kSb adK adV A U U.heap ∧ (∀ i, i < 7 → vk_R RX1 (kSi i) (kSt i) (adK i) U) ∧
  va_Z "java/lang/String" "COMPACT_STRINGS" "Z" (.int 1) A U U.heap ∧ va_Zq "jdk/internal/util/Preconditions" "SIOOBE_FORMATTER" "Ljava/util/function/BiFunction;" A U U.heap
theorem kAlike {u U : State} (h : u.vm = U.vm) : u.vm.Alike U.vm := by rw [h]; exact Vm.Alike.refl _
theorem kBl_G {adK adV : Nat → Nat} : kBl (kG adK adV) := by
  intro A u U hvm hh h
  obtain ⟨⟨n1, n2, n3⟩, h2, h3, h4, h5⟩ := h
  refine ⟨⟨va_Nw.same rfl hvm n1, va_Nw.same rfl hvm n2, va_Nw.same rfl hvm n3⟩, ?_, fun i hi => vk_R.same hvm.symm (h3 i hi), ?_, ?_⟩
  · rw [← hh]; exact vk_S.moved (kAlike hvm) h2
  · rw [← hh]; exact va_Z.moved (kAlike hvm) h4
  · rw [← hh]; exact va_Zq.moved (kAlike hvm) h5
theorem kOk_G {adK adV : Nat → Nat} : kOk (kG adK adV) (kG adK adV) := by
  intro A0 A s U h hsz hk hA hW
  obtain ⟨⟨n1, n2, n3⟩, h2, h3, h4, h5⟩ := h
  exact ⟨⟨va_Nw.warmM hW n1, va_Nw.warmM hW n2, va_Nw.warmM hW n3⟩, vk_S.moved hW.alike ((h2.kept hk).narrow hA), fun i hi => vk_R.warm hW (h3 i hi), va_Z.moved hW.alike ((h4.kept hk).narrow hA), va_Zq.moved hW.alike ((h5.kept hk).narrow hA)⟩
/-! the class's cells: addresses q 0 .. q 32 -/
abbrev wR (cI : ClassId) (h a n : Nat) (f : Nat → Int32) : va_W := [(h, .inr (0, [.ref a])), (a, .inl (cI, n, .inl f))]
abbrev wRT (q : Nat → Nat) (lat und kpl : Int32) : va_W := [(q 0, .inr (6, [.ref (q 1), .ref (q 8), .ref (q 17), .ref (q 20), .ref (q 27), .ref (q 30), .int lat, .int und, .int kpl]))]
abbrev wScr (cI : ClassId) (q : Nat → Nat) (len ncl spe sru sbe sen : Int32) (lets wrds nums : Nat → Int32) : va_W := [(q 1, .inr (1, [.ref (q 2), .ref (q 4), .ref (q 6), .int len, .int ncl, .int spe, .int sru, .int sbe, .int sen])), (q 2, .inr (0, [.ref (q 3)])), (q 3, .inl (cI, 160, .inl lets)), (q 4, .inr (0, [.ref (q 5)])), (q 5, .inl (cI, 14, .inl wrds)), (q 6, .inr (0, [.ref (q 7)])), (q 7, .inl (cI, 42, .inl nums))]
abbrev wTown (cI : ClassId) (q : Nat → Nat) (tb tp tr : Int32) (knd sec brd rms : Nat → Int32) : va_W := [(q 8, .inr (5, [.int tb, .int tp, .int tr, .ref (q 9), .ref (q 11), .ref (q 13), .ref (q 15)])), (q 9, .inr (0, [.ref (q 10)])), (q 10, .inl (cI, 6, .inl knd)), (q 11, .inr (0, [.ref (q 12)])), (q 12, .inl (cI, 6, .inl sec)), (q 13, .inr (0, [.ref (q 14)])), (q 14, .inl (cI, 36, .inl brd)), (q 15, .inr (0, [.ref (q 16)])), (q 16, .inl (cI, 8, .inl rms))]
abbrev wStd (cI : ClassId) (q : Nat → Nat) (std : Nat → Int32) : va_W := [(q 17, .inr (4, [.ref (q 18)])), (q 18, .inr (0, [.ref (q 19)])), (q 19, .inl (cI, 85, .inl std))]
abbrev wSee (cI : ClassId) (q : Nat → Nat) (sn : Int32) (ss sb sp : Nat → Int32) : va_W := [(q 20, .inr (3, [.int sn, .ref (q 21), .ref (q 23), .ref (q 25)])), (q 21, .inr (0, [.ref (q 22)])), (q 22, .inl (cI, 6, .inl ss)), (q 23, .inr (0, [.ref (q 24)])), (q 24, .inl (cI, 6, .inl sb)), (q 25, .inr (0, [.ref (q 26)])), (q 26, .inl (cI, 6, .inl sp))]
abbrev wShf (cI : ClassId) (b r a n : Nat) (f : Nat → Int32) : va_W := [(b, .inr (2, [.ref r])), (r, .inr (0, [.ref a])), (a, .inl (cI, n, .inl f))]
abbrev wC (cI : ClassId) (q : Nat → Nat) (lat und kpl len ncl spe sru sbe sen : Int32) (lets wrds nums : Nat → Int32) (tb tp tr : Int32) (knd sec brd rms std : Nat → Int32) (sn : Int32) (ss sb sp past kept : Nat → Int32) : va_W :=
  wRT q lat und kpl ++ (wScr cI q len ncl spe sru sbe sen lets wrds nums ++ (wTown cI q tb tp tr knd sec brd rms ++ (wStd cI q std ++ (wSee cI q sn ss sb sp ++ (wShf cI (q 27) (q 28) (q 29) 680 past ++ wShf cI (q 30) (q 31) (q 32) 170 kept)))))
/-! the reference's cells: addresses u 0 .. u 8 -/
abbrev wM (cI cZ : ClassId) (u : Nat → Nat) (w told read isK : Nat → Int32) (undoes : Int32) (text : Nat → Int32) (texted seen : Int32) (seS seB seP : Nat → Int32) (at_ start clauses number : Int32) (word : Int64) : va_W :=
  [(u 0, .inr (7, [.ref (u 1), .ref (u 2), .ref (u 3), .ref (u 4), .int undoes, .ref (u 5), .int texted, .int seen, .ref (u 6), .ref (u 7), .ref (u 8), .int at_, .int start, .int clauses, .int number, .long word])), (u 1, .inl (cI, 1020, .inl w)), (u 2, .inl (cI, 59, .inl told)), (u 3, .inl (cI, 59, .inl read)), (u 4, .inl (cZ, 2, .inl isK)), (u 5, .inl (cI, 160, .inl text)), (u 6, .inl (cI, 6, .inl seS)), (u 7, .inl (cI, 6, .inl seB)), (u 8, .inl (cI, 6, .inl seP))]
/-! in-range of what was tested -/
theorem kin_of {x : Int32} {n : Nat} (h1 : ¬ x < 0) (h2 : ¬ nI n ≤ x) (hn : n < 2147483648) : vp_in x n := by
  obtain ⟨j, hj, rfl⟩ := nI_of h1
  rcases Nat.lt_or_ge j n with h | h
  · exact vp_in_nI h hn
  · exact absurd (nI_le h hj) h2
theorem kneI {x k : Int32} (h : ¬ x = k) : x.toInt ≠ k.toInt := fun e => h (Int32.toInt_inj.mp e)
def kushr (x y : Int32) : Int32 := (x.toUInt32 >>> (y.toUInt32 &&& Int32.toUInt32 31)).toInt32
theorem kb.ne0 {x : Int32} {lo hi : Nat} (h : kb x lo hi) (h0 : 0 < lo) (hs : hi < 2147483648) : ¬ x = 0 := by
  obtain ⟨a, a1, a2, rfl⟩ := h
  exact nI_ne0 (by omega) (by omega)
theorem knlt {x : Int32} (h : 0 ≤ x) : ¬ x < 0 := Int32.not_lt.mpr h
theorem kle_of {x y : Int32} (h : ¬ y < x) : x ≤ y := Int32.not_lt.mp h
theorem ktake {x len : Int32} {n : Nat} (hx : ¬ x < 0) (hl : 0 ≤ len) (h : x ≤ nI n - len) (hn : n < 2147483648) : x.toNatClampNeg + len.toNatClampNeg ≤ n := by
  obtain ⟨a, ha, rfl⟩ := nI_of hx
  obtain ⟨b, hb, rfl⟩ := nI_of (knlt hl)
  rw [nI_clamp ha, nI_clamp hb]
  rw [Int32.le_iff_toInt_le, Int32.toInt_sub, nI_toInt ha, nI_toInt hb, nI_toInt hn] at h
  rw [Int.bmod_eq_of_le (by omega) (by omega)] at h
  omega
theorem kmax1_ne (x : Int32) : ¬ (if 1 < x then x else 1) = 0 := by
  split
  · rename_i h
    intro e
    rw [e] at h
    exact absurd h (by decide)
  · decide
theorem lp_zero {α : Type} (f : Nat → α → α) (a : α) : lp f a 0 = a := rfl
theorem lp_succ {α : Type} (f : Nat → α → α) (a : α) (n : Nat) : lp f a (n + 1) = f n (lp f a n) := rfl
theorem kfst {α β : Type} {a : α} {b : β} {z : α × β} (h : (a, b) = z) : a = z.1 := congrArg Prod.fst h
theorem ksnd {α β : Type} {a : α} {b : β} {z : α × β} (h : (a, b) = z) : b = z.2 := congrArg Prod.snd h
