theorem k7 {P : Nat → Prop} (h0 : P 0) (h1 : P 1) (h2 : P 2) (h3 : P 3) (h4 : P 4) (h5 : P 5) (h6 : P 6) : ∀ i, i < 7 → P i := fun i hi =>
  match i, hi with
  | 0, _ => h0
  | 1, _ => h1
  | 2, _ => h2
  | 3, _ => h3
  | 4, _ => h4
  | 5, _ => h5
  | 6, _ => h6
  | n + 7, h => absurd h (by omega)
theorem karr {args : Array Value} {s : State} {ty : FieldType} (h : (Cond.arrayClass ty).before args s = true) (hty : ty = .int ∨ ty = .boolean) : ∃ cA : ClassId, ArrOfT s cA ty ∧ va_RA s cA ty := by
  obtain ⟨cA, kA, comp, h1, h2, h3⟩ := Cond.arrayClass_spec h
  refine ⟨cA, fun n z => ⟨fun k h => (by cases h), kA, h2, comp, h3⟩, ?_⟩
  rcases hty with rfl | rfl <;> exact h1
abbrev kTm : Nat → Term := fun i => .string RX1 (kSi i)
set_option maxRecDepth 100000 in
theorem ks_ex {args : Array Value} {s : State} (hs : ∀ c ∈ flatC (Jvm.Cond.and given_1 narrow_1), c.before args s = true) : ∀ i : Nat, i < 7 → (Cond.exactly (kTm i) "java/lang/String").before args s = true := k7 (hs _ (by decide +kernel)) (hs _ (by decide +kernel)) (hs _ (by decide +kernel)) (hs _ (by decide +kernel)) (hs _ (by decide +kernel)) (hs _ (by decide +kernel)) (hs _ (by decide +kernel))
set_option maxRecDepth 100000 in
theorem ks_co {args : Array Value} {s : State} (hs : ∀ c ∈ flatC (Jvm.Cond.and given_1 narrow_1), c.before args s = true) : ∀ i : Nat, i < 7 → (Cond.eq (.field (kTm i) "java/lang/String" "coder" "B") (.int 0)).before args s = true := k7 (hs _ (by decide +kernel)) (hs _ (by decide +kernel)) (hs _ (by decide +kernel)) (hs _ (by decide +kernel)) (hs _ (by decide +kernel)) (hs _ (by decide +kernel)) (hs _ (by decide +kernel))
set_option maxRecDepth 100000 in
theorem ks_ar {args : Array Value} {s : State} (hs : ∀ c ∈ flatC (Jvm.Cond.and given_1 narrow_1), c.before args s = true) : ∀ i : Nat, i < 7 → (Cond.arrayOf (.field (kTm i) "java/lang/String" "value" "[B") .byte).before args s = true := k7 (hs _ (by decide +kernel)) (hs _ (by decide +kernel)) (hs _ (by decide +kernel)) (hs _ (by decide +kernel)) (hs _ (by decide +kernel)) (hs _ (by decide +kernel)) (hs _ (by decide +kernel))
set_option maxRecDepth 100000 in
theorem ks_le {args : Array Value} {s : State} (hs : ∀ c ∈ flatC (Jvm.Cond.and given_1 narrow_1), c.before args s = true) : ∀ i : Nat, i < 7 → (Cond.eq (.length (.field (kTm i) "java/lang/String" "value" "[B")) (.int (Int32.ofNat (kSl.getD i 0)))).before args s = true := k7 (hs _ (by decide +kernel)) (hs _ (by decide +kernel)) (hs _ (by decide +kernel)) (hs _ (by decide +kernel)) (hs _ (by decide +kernel)) (hs _ (by decide +kernel)) (hs _ (by decide +kernel))
set_option maxRecDepth 100000 in
theorem ks_el0 {args : Array Value} {s : State} (hs : ∀ c ∈ flatC (Jvm.Cond.and given_1 narrow_1), c.before args s = true) : ∀ j : Nat, j < 5 → (Cond.eq (.elem (.field (kTm 0) "java/lang/String" "value" "[B") (.int (Int32.ofNat j))) (.int ((kSb.getD 0 []).getD j 0))).before args s = true := fun j hj =>
  match j, hj with
  | 0, _ => hs _ (by decide +kernel)
  | 1, _ => hs _ (by decide +kernel)
  | 2, _ => hs _ (by decide +kernel)
  | 3, _ => hs _ (by decide +kernel)
  | 4, _ => hs _ (by decide +kernel)
  | n + 5, h => absurd h (by omega)
set_option maxRecDepth 100000 in
theorem ks_el1 {args : Array Value} {s : State} (hs : ∀ c ∈ flatC (Jvm.Cond.and given_1 narrow_1), c.before args s = true) : ∀ j : Nat, j < 6 → (Cond.eq (.elem (.field (kTm 1) "java/lang/String" "value" "[B") (.int (Int32.ofNat j))) (.int ((kSb.getD 1 []).getD j 0))).before args s = true := fun j hj =>
  match j, hj with
  | 0, _ => hs _ (by decide +kernel)
  | 1, _ => hs _ (by decide +kernel)
  | 2, _ => hs _ (by decide +kernel)
  | 3, _ => hs _ (by decide +kernel)
  | 4, _ => hs _ (by decide +kernel)
  | 5, _ => hs _ (by decide +kernel)
  | n + 6, h => absurd h (by omega)
set_option maxRecDepth 100000 in
theorem ks_el2 {args : Array Value} {s : State} (hs : ∀ c ∈ flatC (Jvm.Cond.and given_1 narrow_1), c.before args s = true) : ∀ j : Nat, j < 8 → (Cond.eq (.elem (.field (kTm 2) "java/lang/String" "value" "[B") (.int (Int32.ofNat j))) (.int ((kSb.getD 2 []).getD j 0))).before args s = true := fun j hj =>
  match j, hj with
  | 0, _ => hs _ (by decide +kernel)
  | 1, _ => hs _ (by decide +kernel)
  | 2, _ => hs _ (by decide +kernel)
  | 3, _ => hs _ (by decide +kernel)
  | 4, _ => hs _ (by decide +kernel)
  | 5, _ => hs _ (by decide +kernel)
  | 6, _ => hs _ (by decide +kernel)
  | 7, _ => hs _ (by decide +kernel)
  | n + 8, h => absurd h (by omega)
set_option maxRecDepth 100000 in
theorem ks_el3 {args : Array Value} {s : State} (hs : ∀ c ∈ flatC (Jvm.Cond.and given_1 narrow_1), c.before args s = true) : ∀ j : Nat, j < 6 → (Cond.eq (.elem (.field (kTm 3) "java/lang/String" "value" "[B") (.int (Int32.ofNat j))) (.int ((kSb.getD 3 []).getD j 0))).before args s = true := fun j hj =>
  match j, hj with
  | 0, _ => hs _ (by decide +kernel)
  | 1, _ => hs _ (by decide +kernel)
  | 2, _ => hs _ (by decide +kernel)
  | 3, _ => hs _ (by decide +kernel)
  | 4, _ => hs _ (by decide +kernel)
  | 5, _ => hs _ (by decide +kernel)
  | n + 6, h => absurd h (by omega)
set_option maxRecDepth 100000 in
theorem ks_el4 {args : Array Value} {s : State} (hs : ∀ c ∈ flatC (Jvm.Cond.and given_1 narrow_1), c.before args s = true) : ∀ j : Nat, j < 4 → (Cond.eq (.elem (.field (kTm 4) "java/lang/String" "value" "[B") (.int (Int32.ofNat j))) (.int ((kSb.getD 4 []).getD j 0))).before args s = true := fun j hj =>
  match j, hj with
  | 0, _ => hs _ (by decide +kernel)
  | 1, _ => hs _ (by decide +kernel)
  | 2, _ => hs _ (by decide +kernel)
  | 3, _ => hs _ (by decide +kernel)
  | n + 4, h => absurd h (by omega)
set_option maxRecDepth 100000 in
theorem ks_el5 {args : Array Value} {s : State} (hs : ∀ c ∈ flatC (Jvm.Cond.and given_1 narrow_1), c.before args s = true) : ∀ j : Nat, j < 6 → (Cond.eq (.elem (.field (kTm 5) "java/lang/String" "value" "[B") (.int (Int32.ofNat j))) (.int ((kSb.getD 5 []).getD j 0))).before args s = true := fun j hj =>
  match j, hj with
  | 0, _ => hs _ (by decide +kernel)
  | 1, _ => hs _ (by decide +kernel)
  | 2, _ => hs _ (by decide +kernel)
  | 3, _ => hs _ (by decide +kernel)
  | 4, _ => hs _ (by decide +kernel)
  | 5, _ => hs _ (by decide +kernel)
  | n + 6, h => absurd h (by omega)
set_option maxRecDepth 100000 in
theorem ks_el6 {args : Array Value} {s : State} (hs : ∀ c ∈ flatC (Jvm.Cond.and given_1 narrow_1), c.before args s = true) : ∀ j : Nat, j < 5 → (Cond.eq (.elem (.field (kTm 6) "java/lang/String" "value" "[B") (.int (Int32.ofNat j))) (.int ((kSb.getD 6 []).getD j 0))).before args s = true := fun j hj =>
  match j, hj with
  | 0, _ => hs _ (by decide +kernel)
  | 1, _ => hs _ (by decide +kernel)
  | 2, _ => hs _ (by decide +kernel)
  | 3, _ => hs _ (by decide +kernel)
  | 4, _ => hs _ (by decide +kernel)
  | n + 5, h => absurd h (by omega)
theorem ks_el {args : Array Value} {s : State} (hs : ∀ c ∈ flatC (Jvm.Cond.and given_1 narrow_1), c.before args s = true) : ∀ i : Nat, i < 7 → ∀ j : Nat, j < kSl.getD i 0 → (Cond.eq (.elem (.field (kTm i) "java/lang/String" "value" "[B") (.int (Int32.ofNat j))) (.int ((kSb.getD i []).getD j 0))).before args s = true := k7 (ks_el0 hs) (ks_el1 hs) (ks_el2 hs) (ks_el3 hs) (ks_el4 hs) (ks_el5 hs) (ks_el6 hs)
set_option maxRecDepth 100000 in
theorem ks_n01 {args : Array Value} {s : State} (hs : ∀ c ∈ flatC (Jvm.Cond.and given_1 narrow_1), c.before args s = true) : (Cond.not (Cond.eq (kTm 0) (kTm 1))).before args s = true := hs _ (by decide +kernel)
set_option maxRecDepth 100000 in
theorem ks_n02 {args : Array Value} {s : State} (hs : ∀ c ∈ flatC (Jvm.Cond.and given_1 narrow_1), c.before args s = true) : (Cond.not (Cond.eq (kTm 0) (kTm 2))).before args s = true := hs _ (by decide +kernel)
set_option maxRecDepth 100000 in
theorem ks_n03 {args : Array Value} {s : State} (hs : ∀ c ∈ flatC (Jvm.Cond.and given_1 narrow_1), c.before args s = true) : (Cond.not (Cond.eq (kTm 0) (kTm 3))).before args s = true := hs _ (by decide +kernel)
set_option maxRecDepth 100000 in
theorem ks_n04 {args : Array Value} {s : State} (hs : ∀ c ∈ flatC (Jvm.Cond.and given_1 narrow_1), c.before args s = true) : (Cond.not (Cond.eq (kTm 0) (kTm 4))).before args s = true := hs _ (by decide +kernel)
set_option maxRecDepth 100000 in
theorem ks_n05 {args : Array Value} {s : State} (hs : ∀ c ∈ flatC (Jvm.Cond.and given_1 narrow_1), c.before args s = true) : (Cond.not (Cond.eq (kTm 0) (kTm 5))).before args s = true := hs _ (by decide +kernel)
set_option maxRecDepth 100000 in
theorem ks_n06 {args : Array Value} {s : State} (hs : ∀ c ∈ flatC (Jvm.Cond.and given_1 narrow_1), c.before args s = true) : (Cond.not (Cond.eq (kTm 0) (kTm 6))).before args s = true := hs _ (by decide +kernel)
set_option maxRecDepth 100000 in
theorem ks_n12 {args : Array Value} {s : State} (hs : ∀ c ∈ flatC (Jvm.Cond.and given_1 narrow_1), c.before args s = true) : (Cond.not (Cond.eq (kTm 1) (kTm 2))).before args s = true := hs _ (by decide +kernel)
set_option maxRecDepth 100000 in
theorem ks_n13 {args : Array Value} {s : State} (hs : ∀ c ∈ flatC (Jvm.Cond.and given_1 narrow_1), c.before args s = true) : (Cond.not (Cond.eq (kTm 1) (kTm 3))).before args s = true := hs _ (by decide +kernel)
set_option maxRecDepth 100000 in
theorem ks_n14 {args : Array Value} {s : State} (hs : ∀ c ∈ flatC (Jvm.Cond.and given_1 narrow_1), c.before args s = true) : (Cond.not (Cond.eq (kTm 1) (kTm 4))).before args s = true := hs _ (by decide +kernel)
set_option maxRecDepth 100000 in
theorem ks_n15 {args : Array Value} {s : State} (hs : ∀ c ∈ flatC (Jvm.Cond.and given_1 narrow_1), c.before args s = true) : (Cond.not (Cond.eq (kTm 1) (kTm 5))).before args s = true := hs _ (by decide +kernel)
set_option maxRecDepth 100000 in
theorem ks_n16 {args : Array Value} {s : State} (hs : ∀ c ∈ flatC (Jvm.Cond.and given_1 narrow_1), c.before args s = true) : (Cond.not (Cond.eq (kTm 1) (kTm 6))).before args s = true := hs _ (by decide +kernel)
set_option maxRecDepth 100000 in
theorem ks_n23 {args : Array Value} {s : State} (hs : ∀ c ∈ flatC (Jvm.Cond.and given_1 narrow_1), c.before args s = true) : (Cond.not (Cond.eq (kTm 2) (kTm 3))).before args s = true := hs _ (by decide +kernel)
set_option maxRecDepth 100000 in
theorem ks_n24 {args : Array Value} {s : State} (hs : ∀ c ∈ flatC (Jvm.Cond.and given_1 narrow_1), c.before args s = true) : (Cond.not (Cond.eq (kTm 2) (kTm 4))).before args s = true := hs _ (by decide +kernel)
set_option maxRecDepth 100000 in
theorem ks_n25 {args : Array Value} {s : State} (hs : ∀ c ∈ flatC (Jvm.Cond.and given_1 narrow_1), c.before args s = true) : (Cond.not (Cond.eq (kTm 2) (kTm 5))).before args s = true := hs _ (by decide +kernel)
set_option maxRecDepth 100000 in
theorem ks_n26 {args : Array Value} {s : State} (hs : ∀ c ∈ flatC (Jvm.Cond.and given_1 narrow_1), c.before args s = true) : (Cond.not (Cond.eq (kTm 2) (kTm 6))).before args s = true := hs _ (by decide +kernel)
set_option maxRecDepth 100000 in
theorem ks_n34 {args : Array Value} {s : State} (hs : ∀ c ∈ flatC (Jvm.Cond.and given_1 narrow_1), c.before args s = true) : (Cond.not (Cond.eq (kTm 3) (kTm 4))).before args s = true := hs _ (by decide +kernel)
set_option maxRecDepth 100000 in
theorem ks_n35 {args : Array Value} {s : State} (hs : ∀ c ∈ flatC (Jvm.Cond.and given_1 narrow_1), c.before args s = true) : (Cond.not (Cond.eq (kTm 3) (kTm 5))).before args s = true := hs _ (by decide +kernel)
set_option maxRecDepth 100000 in
theorem ks_n36 {args : Array Value} {s : State} (hs : ∀ c ∈ flatC (Jvm.Cond.and given_1 narrow_1), c.before args s = true) : (Cond.not (Cond.eq (kTm 3) (kTm 6))).before args s = true := hs _ (by decide +kernel)
set_option maxRecDepth 100000 in
theorem ks_n45 {args : Array Value} {s : State} (hs : ∀ c ∈ flatC (Jvm.Cond.and given_1 narrow_1), c.before args s = true) : (Cond.not (Cond.eq (kTm 4) (kTm 5))).before args s = true := hs _ (by decide +kernel)
set_option maxRecDepth 100000 in
theorem ks_n46 {args : Array Value} {s : State} (hs : ∀ c ∈ flatC (Jvm.Cond.and given_1 narrow_1), c.before args s = true) : (Cond.not (Cond.eq (kTm 4) (kTm 6))).before args s = true := hs _ (by decide +kernel)
set_option maxRecDepth 100000 in
theorem ks_n56 {args : Array Value} {s : State} (hs : ∀ c ∈ flatC (Jvm.Cond.and given_1 narrow_1), c.before args s = true) : (Cond.not (Cond.eq (kTm 5) (kTm 6))).before args s = true := hs _ (by decide +kernel)
theorem ks_ne0 {args : Array Value} {s : State} (hs : ∀ c ∈ flatC (Jvm.Cond.and given_1 narrow_1), c.before args s = true) : ∀ j : Nat, j < 7 → 0 ≠ j → (Cond.not (Cond.eq (kTm 0) (kTm j))).before args s = true ∨ (Cond.not (Cond.eq (kTm j) (kTm 0))).before args s = true := k7 (fun h => absurd rfl h) (fun _ => Or.inl (ks_n01 hs)) (fun _ => Or.inl (ks_n02 hs)) (fun _ => Or.inl (ks_n03 hs)) (fun _ => Or.inl (ks_n04 hs)) (fun _ => Or.inl (ks_n05 hs)) (fun _ => Or.inl (ks_n06 hs))
theorem ks_ne1 {args : Array Value} {s : State} (hs : ∀ c ∈ flatC (Jvm.Cond.and given_1 narrow_1), c.before args s = true) : ∀ j : Nat, j < 7 → 1 ≠ j → (Cond.not (Cond.eq (kTm 1) (kTm j))).before args s = true ∨ (Cond.not (Cond.eq (kTm j) (kTm 1))).before args s = true := k7 (fun _ => Or.inr (ks_n01 hs)) (fun h => absurd rfl h) (fun _ => Or.inl (ks_n12 hs)) (fun _ => Or.inl (ks_n13 hs)) (fun _ => Or.inl (ks_n14 hs)) (fun _ => Or.inl (ks_n15 hs)) (fun _ => Or.inl (ks_n16 hs))
theorem ks_ne2 {args : Array Value} {s : State} (hs : ∀ c ∈ flatC (Jvm.Cond.and given_1 narrow_1), c.before args s = true) : ∀ j : Nat, j < 7 → 2 ≠ j → (Cond.not (Cond.eq (kTm 2) (kTm j))).before args s = true ∨ (Cond.not (Cond.eq (kTm j) (kTm 2))).before args s = true := k7 (fun _ => Or.inr (ks_n02 hs)) (fun _ => Or.inr (ks_n12 hs)) (fun h => absurd rfl h) (fun _ => Or.inl (ks_n23 hs)) (fun _ => Or.inl (ks_n24 hs)) (fun _ => Or.inl (ks_n25 hs)) (fun _ => Or.inl (ks_n26 hs))
theorem ks_ne3 {args : Array Value} {s : State} (hs : ∀ c ∈ flatC (Jvm.Cond.and given_1 narrow_1), c.before args s = true) : ∀ j : Nat, j < 7 → 3 ≠ j → (Cond.not (Cond.eq (kTm 3) (kTm j))).before args s = true ∨ (Cond.not (Cond.eq (kTm j) (kTm 3))).before args s = true := k7 (fun _ => Or.inr (ks_n03 hs)) (fun _ => Or.inr (ks_n13 hs)) (fun _ => Or.inr (ks_n23 hs)) (fun h => absurd rfl h) (fun _ => Or.inl (ks_n34 hs)) (fun _ => Or.inl (ks_n35 hs)) (fun _ => Or.inl (ks_n36 hs))
theorem ks_ne4 {args : Array Value} {s : State} (hs : ∀ c ∈ flatC (Jvm.Cond.and given_1 narrow_1), c.before args s = true) : ∀ j : Nat, j < 7 → 4 ≠ j → (Cond.not (Cond.eq (kTm 4) (kTm j))).before args s = true ∨ (Cond.not (Cond.eq (kTm j) (kTm 4))).before args s = true := k7 (fun _ => Or.inr (ks_n04 hs)) (fun _ => Or.inr (ks_n14 hs)) (fun _ => Or.inr (ks_n24 hs)) (fun _ => Or.inr (ks_n34 hs)) (fun h => absurd rfl h) (fun _ => Or.inl (ks_n45 hs)) (fun _ => Or.inl (ks_n46 hs))
theorem ks_ne5 {args : Array Value} {s : State} (hs : ∀ c ∈ flatC (Jvm.Cond.and given_1 narrow_1), c.before args s = true) : ∀ j : Nat, j < 7 → 5 ≠ j → (Cond.not (Cond.eq (kTm 5) (kTm j))).before args s = true ∨ (Cond.not (Cond.eq (kTm j) (kTm 5))).before args s = true := k7 (fun _ => Or.inr (ks_n05 hs)) (fun _ => Or.inr (ks_n15 hs)) (fun _ => Or.inr (ks_n25 hs)) (fun _ => Or.inr (ks_n35 hs)) (fun _ => Or.inr (ks_n45 hs)) (fun h => absurd rfl h) (fun _ => Or.inl (ks_n56 hs))
theorem ks_ne6 {args : Array Value} {s : State} (hs : ∀ c ∈ flatC (Jvm.Cond.and given_1 narrow_1), c.before args s = true) : ∀ j : Nat, j < 7 → 6 ≠ j → (Cond.not (Cond.eq (kTm 6) (kTm j))).before args s = true ∨ (Cond.not (Cond.eq (kTm j) (kTm 6))).before args s = true := k7 (fun _ => Or.inr (ks_n06 hs)) (fun _ => Or.inr (ks_n16 hs)) (fun _ => Or.inr (ks_n26 hs)) (fun _ => Or.inr (ks_n36 hs)) (fun _ => Or.inr (ks_n46 hs)) (fun _ => Or.inr (ks_n56 hs)) (fun h => absurd rfl h)
theorem ks_ne {args : Array Value} {s : State} (hs : ∀ c ∈ flatC (Jvm.Cond.and given_1 narrow_1), c.before args s = true) : ∀ i : Nat, i < 7 → ∀ j : Nat, j < 7 → i ≠ j → (Cond.not (Cond.eq (kTm i) (kTm j))).before args s = true ∨ (Cond.not (Cond.eq (kTm j) (kTm i))).before args s = true := k7 (ks_ne0 hs) (ks_ne1 hs) (ks_ne2 hs) (ks_ne3 hs) (ks_ne4 hs) (ks_ne5 hs) (ks_ne6 hs)
set_option maxRecDepth 100000 in
theorem kl7 : ∀ i : Nat, i < 7 → kSl.getD i 0 < 2 ^ 31 := k7 (by decide) (by decide) (by decide) (by decide) (by decide) (by decide) (by decide)
set_option maxRecDepth 100000 in
set_option maxHeartbeats 4000000 in
theorem kG_start {s : State} {b : Nat} (hts0 : ∀ w ∈ lw_tbl, w.before #[Value.ref b] s = true) (hgv : (Jvm.Cond.and given_1 narrow_1).before #[Value.ref b] s = true) : ∃ adK adV : Nat → Nat, kG adK adV (fun q : Nat => s.heap.size ≤ q) s := by
  have hs := flat_of_before _ hgv
  have hA : ∀ a : Nat, a < s.heap.size → ¬ (fun q : Nat => s.heap.size ≤ q) a := fun a h => Nat.not_le.mpr h
  obtain ⟨adK, adV, h1, h2⟩ := vk_Sof (N := 7) (tm := kTm) (len := kSl) (byt := kSb) kl7 (ks_ex hs) (ks_co hs) (ks_ar hs) (ks_le hs) (ks_el hs) (fun i j hi hj => ks_ne hs i hi j hj) hA
  refine ⟨adK, adV, ⟨va_Nw.of rfl (hts0 (Cond.methodLinkNest RX5 74 yX6_telling "RazorTalk") (lwt_2 _ (List.mem_of_getElem? (i := 214) rfl))), va_Nw.of rfl (hts0 (Cond.methodLinkNest RX5 81 yX6_has "RazorTalk") (lwt_3 _ (List.mem_of_getElem? (i := 84) rfl))), va_Nw.of rfl (hts0 (Cond.methodLinkNest RX4 63 yX6_replaced "RazorTalk") (lwt_3 _ (List.mem_of_getElem? (i := 3) rfl)))⟩, h1, k7 (vk_R.of (hts0 (Cond.stringRef RX1 103 "plain") (lwt_1 _ (List.mem_of_getElem? (i := 237) rfl))) (h2 0 (by decide))) (vk_R.of (hts0 (Cond.stringRef RX1 105 "bailed") (lwt_1 _ (List.mem_of_getElem? (i := 238) rfl))) (h2 1 (by decide))) (vk_R.of (hts0 (Cond.stringRef RX1 107 "reserved") (lwt_1 _ (List.mem_of_getElem? (i := 239) rfl))) (h2 2 (by decide))) (vk_R.of (hts0 (Cond.stringRef RX1 109 "nicked") (lwt_2 _ (List.mem_of_getElem? (i := 0) rfl))) (h2 3 (by decide))) (vk_R.of (hts0 (Cond.stringRef RX1 111 "town") (lwt_2 _ (List.mem_of_getElem? (i := 1) rfl))) (h2 4 (by decide))) (vk_R.of (hts0 (Cond.stringRef RX1 113 "rumour") (lwt_2 _ (List.mem_of_getElem? (i := 2) rfl))) (h2 5 (by decide))) (vk_R.of (hts0 (Cond.stringRef RX1 115 "beard") (lwt_2 _ (List.mem_of_getElem? (i := 3) rfl))) (h2 6 (by decide))), ?_, ?_⟩
  · exact va_Zof (hts0 (Cond.laysStatic "java/lang/String" "COMPACT_STRINGS" "Z") (lwt_2 _ (List.mem_of_getElem? (i := 17) rfl))) (hts0 (Cond.initialized "java/lang/String") (lwt_1 _ (List.mem_of_getElem? (i := 10) rfl))) (va_eqi (hs _ (by decide +kernel))) hA
  · exact va_Zqof (hts0 (Cond.laysStatic "jdk/internal/util/Preconditions" "SIOOBE_FORMATTER" "Ljava/util/function/BiFunction;") (lwt_2 _ (List.mem_of_getElem? (i := 33) rfl))) (hts0 (Cond.initialized "jdk/internal/util/Preconditions") (lwt_1 _ (List.mem_of_getElem? (i := 12) rfl))) (hs _ (by decide +kernel)) hA
set_option maxRecDepth 100000 in
theorem kK_start {s : State} {args : Array Value} (hts : ∀ w ∈ wsL_law, w.before args s = true) : ∃ (D : va_G) (cI cZ : ClassId), va_K D vwCl (kTy cI cZ) s := by
  obtain ⟨c0, i0, hK0⟩ := u_known (C := RX0) (T := TX0) (N := 1) (n := 1) hts inlX0 (hts _ (kin_2 _ (List.mem_of_getElem? (i := 17) rfl)))
  obtain ⟨c1, i1, hK1⟩ := u_known (C := RX1) (T := TX1) (N := 9) (n := 9) hts inlX1 (hts _ (kin_1 _ (List.mem_of_getElem? (i := 13) rfl)))
  obtain ⟨c2, i2, hK2⟩ := u_known (C := RX2) (T := TX2) (N := 1) (n := 1) hts inlX2 (hts _ (kin_2 _ (List.mem_of_getElem? (i := 5) rfl)))
  obtain ⟨c3, i3, hK3⟩ := u_known (C := RX3) (T := TX3) (N := 4) (n := 4) hts inlX3 (hts _ (kin_2 _ (List.mem_of_getElem? (i := 1) rfl)))
  obtain ⟨c4, i4, hK4⟩ := u_known (C := RX4) (T := TX4) (N := 1) (n := 1) hts inlX4 (hts _ (kin_1 _ (List.mem_of_getElem? (i := 21) rfl)))
  obtain ⟨c5, i5, hK5⟩ := u_known (C := RX5) (T := TX5) (N := 7) (n := 7) hts inlX5 (hts _ (kin_1 _ (List.mem_of_getElem? (i := 17) rfl)))
  obtain ⟨c6, i6, hK6⟩ := u_known (C := RX6) (T := TX6) (N := 9) (n := 9) hts inlX6 (hts _ (kin_1 _ (List.mem_of_getElem? (i := 1) rfl)))
  obtain ⟨c7, i7, hK7⟩ := u_known (C := RX7) (T := TX7) (N := 16) (n := 16) hts inlX7 (hts _ (kin_1 _ (List.mem_of_getElem? (i := 4) rfl)))
  obtain ⟨cI, hI⟩ := karr (hts _ (kin_3 _ (List.mem_of_getElem? (i := 6) rfl))) (Or.inl rfl)
  obtain ⟨cZ, hZ⟩ := karr (hts _ (kin_5 _ (List.mem_of_getElem? (i := 1) rfl))) (Or.inr rfl)
  refine ⟨(fun k => match k with | 0 => c0 | 1 => c1 | 2 => c2 | 3 => c3 | 4 => c4 | 5 => c5 | 6 => c6 | _ => c7, fun k => match k with | 0 => i0 | 1 => i1 | 2 => i2 | 3 => i3 | 4 => i4 | 5 => i5 | 6 => i6 | _ => i7), cI, cZ, fun k q hq => ?_, fun k q hq => ?_⟩
  · match k, hq with
    | 0, hq => cases hq; exact hK0
    | 1, hq => cases hq; exact hK1
    | 2, hq => cases hq; exact hK2
    | 3, hq => cases hq; exact hK3
    | 4, hq => cases hq; exact hK4
    | 5, hq => cases hq; exact hK5
    | 6, hq => cases hq; exact hK6
    | 7, hq => cases hq; exact hK7
    | k + 8, hq => simp [vwCl] at hq
  · match k, hq with
    | 0, hq => cases hq; exact hI
    | 1, hq => cases hq; exact hZ
    | k + 2, hq => simp [kTy] at hq
def RelInit : Prop := Rel 0 0 0 0 (fun _ => 0) 2 0 0 (fun _ => 0) (fun _ => 0) (fun _ => 0) (fun _ => 0) (fun _ => 0) 0 (fun _ => 0) (fun _ => 0) (fun _ => 0) (fun _ => 0) (fun _ => 0) (fun _ => 0) (upd (fun _ => 0) 0 2) (fun _ => 0) 0 (fun _ => 0) 0 0 (fun _ => 0) (fun _ => 0) (fun _ => 0)
set_option maxRecDepth 100000 in
set_option maxHeartbeats 4000000 in
theorem law_start (hRA : RelAll) (hRq : RelAsk) (hR0 : RelInit) {p : Program} {e : Env} {s : State} {m : MethodId} {below : List Frame} {meth : Method} {c : Code} (l : Launch) {b L : Nat} {xs : Nat → Int32} (hL : L ≤ 2560) (C0 : lw_At p s m meth c b L xs) : W p l e room_1 s m #[Value.ref b] below meth c s.heap [] 0 0 (lw_Z below #[Value.ref b] s) (entryFrame m ([Value.ref b] : List Value).toArray 4) := by
  have C1 := C0
  obtain ⟨hx, hb, hrt, hml, hown, hts0, hX, hbl, hlocks, hgv⟩ := C1
  have hb : c.code = cL_law := hb
  have hown : s.vm.findClass RL = some m.cls := hown
  have hts : ∀ w ∈ wsL_law, w.before #[Value.ref b] s = true := fun w h => hts0 w (wsL_law_in w h)
  have hA : ∀ q : Nat, s.heap.size ≤ q → (fun q : Nat => s.heap.size ≤ q) q := fun _ h => h
  have hbA : ¬ (fun q : Nat => s.heap.size ≤ q) b := Nat.not_le.mpr hbl
  obtain ⟨adK, adV, hG⟩ := kG_start hts0 hgv
  obtain ⟨D, cI, cZ, hK⟩ := kK_start hts
  have hS : va_S (fun q : Nat => s.heap.size ≤ q) s.heap s.heap [] := va_S.rf
  have hP : va_P D vwCl [] s.heap := fun k q h => by simp at h
  have hD : va_D (fun q : Nat => s.heap.size ≤ q) [] := ⟨fun i j p q h => by simp at h, fun k q h => by simp at h⟩
  have hl := lv_entry ([.ref b]) (n := 4) (Nat.le_of_ble_eq_true rfl)
  rw [lg_entry_eq]
  generalize (lg_sl ([.ref b]) ++ List.replicate (4 - (lg_sl ([.ref b])).length) Slot.unset).toArray = ls at hl ⊢
  have hl : lv_has ls 4 [(0, .ref b)] := hl
  refine va_new (ci := 6) (fs := [.null, .null, .null, .null, .null, .null, .int 0, .int 0, .int 0]) (C := RX6) (T := TX6) (N := 9) hx hb hts inlX6 tyX6 tyX6_ok hown (hts _ (kin_1 _ (List.mem_of_getElem? (i := 0) rfl))) (hts _ (kin_1 _ (List.mem_of_getElem? (i := 1) rfl))) (hts _ (kin_1 _ (List.mem_of_getElem? (i := 2) rfl))) hK hP hD hS hA rfl (fun j hj => by rcases (show j = 0 ∨ j = 1 ∨ j = 2 ∨ j = 3 ∨ j = 4 ∨ j = 5 ∨ j = 6 ∨ j = 7 ∨ j = 8 by omega) with rfl | rfl | rfl | rfl | rfl | rfl | rfl | rfl | rfl <;> rfl) (Nat.le_of_ble_eq_true rfl) (Nat.le_of_ble_eq_true rfl) dL_law_0 (fun h6 H hP hD hS => ?_)
  have hP : va_P D vwCl [(h6, .inr (6, [.null, .null, .null, .null, .null, .null, .int 0, .int 0, .int 0]))] H := hP
  have hD : va_D (fun q : Nat => s.heap.size ≤ q) [(h6, .inr (6, [.null, .null, .null, .null, .null, .null, .int 0, .int 0, .int 0]))] := hD
  refine lv_dup hx hb dL_law_3 rfl ?_
  refine kvc (As := []) (rest := [.ref h6]) (isC := [0]) (isR := []) (wr := []) ⟨hx, hb, hml, hown, hts⟩ hP hK hD hS hA hG (k_X6_init l D cI cZ adK adV h6) (kcI hts (kin_1 _ (List.mem_of_getElem? (i := 8) rfl)) (kin_1 _ (List.mem_of_getElem? (i := 2) rfl)) (kin_1 _ (List.mem_of_getElem? (i := 7) rfl)) (kin_1 _ (List.mem_of_getElem? (i := 6) rfl)) rfl rfl rfl (by decide +kernel) ⟨Nat.le_of_ble_eq_true rfl, Nat.le_of_ble_eq_true rfl⟩) kBl_G kOk_G rfl rfl (by decide) rfl hl.1 rfl (Nat.le_of_ble_eq_true rfl) dL_law_4 ⟨Nat.le_of_ble_eq_true rfl, Nat.le_of_ble_eq_true rfl⟩ (fun q H locs hP hD hS => ?_)
  have hq0 : q.1 0 = h6 := q.2
  have hP : va_P D vwCl (wC cI q.1 0 0 0 0 0 0 0 0 0 (fun _ => 0) (fun _ => 0) (fun _ => 0) 2 0 0 (fun _ => 0) (fun _ => 0) (fun _ => 0) (fun _ => 0) (fun _ => 0) 0 (fun _ => 0) (fun _ => 0) (fun _ => 0) (fun _ => 0) (fun _ => 0)) H := hP
  have hD : va_D (fun q : Nat => s.heap.size ≤ q) (wC cI q.1 0 0 0 0 0 0 0 0 0 (fun _ => 0) (fun _ => 0) (fun _ => 0) 2 0 0 (fun _ => 0) (fun _ => 0) (fun _ => 0) (fun _ => 0) (fun _ => 0) 0 (fun _ => 0) (fun _ => 0) (fun _ => 0) (fun _ => 0) (fun _ => 0)) := hD
  refine lv_astore_n (lv' := [(1, .ref h6), (0, .ref b)]) hx hb dL_law_7 rfl hl (by decide) rfl (fun ls hl => ?_)
  refine va_new (ci := 7) (fs := [.null, .null, .null, .null, .int 0, .null, .int 0, .int 0, .null, .null, .null, .int 0, .int 0, .int 0, .int 0, .long 0]) (C := RX7) (T := TX7) (N := 16) hx hb hts inlX7 tyX7 tyX7_ok hown (hts _ (kin_1 _ (List.mem_of_getElem? (i := 3) rfl))) (hts _ (kin_1 _ (List.mem_of_getElem? (i := 4) rfl))) (hts _ (kin_1 _ (List.mem_of_getElem? (i := 5) rfl))) hK hP hD hS hA rfl (fun j hj => by rcases (show j = 0 ∨ j = 1 ∨ j = 2 ∨ j = 3 ∨ j = 4 ∨ j = 5 ∨ j = 6 ∨ j = 7 ∨ j = 8 ∨ j = 9 ∨ j = 10 ∨ j = 11 ∨ j = 12 ∨ j = 13 ∨ j = 14 ∨ j = 15 by omega) with rfl | rfl | rfl | rfl | rfl | rfl | rfl | rfl | rfl | rfl | rfl | rfl | rfl | rfl | rfl | rfl <;> rfl) (Nat.le_of_ble_eq_true rfl) (Nat.le_of_ble_eq_true rfl) dL_law_8 (fun h7 H hP hD hS => ?_)
  have hP : va_P D vwCl (wC cI q.1 0 0 0 0 0 0 0 0 0 (fun _ => 0) (fun _ => 0) (fun _ => 0) 2 0 0 (fun _ => 0) (fun _ => 0) (fun _ => 0) (fun _ => 0) (fun _ => 0) 0 (fun _ => 0) (fun _ => 0) (fun _ => 0) (fun _ => 0) (fun _ => 0) ++ [(h7, .inr (7, [.null, .null, .null, .null, .int 0, .null, .int 0, .int 0, .null, .null, .null, .int 0, .int 0, .int 0, .int 0, .long 0]))]) H := hP
  have hD : va_D (fun q : Nat => s.heap.size ≤ q) (wC cI q.1 0 0 0 0 0 0 0 0 0 (fun _ => 0) (fun _ => 0) (fun _ => 0) 2 0 0 (fun _ => 0) (fun _ => 0) (fun _ => 0) (fun _ => 0) (fun _ => 0) 0 (fun _ => 0) (fun _ => 0) (fun _ => 0) (fun _ => 0) (fun _ => 0) ++ [(h7, .inr (7, [.null, .null, .null, .null, .int 0, .null, .int 0, .int 0, .null, .null, .null, .int 0, .int 0, .int 0, .int 0, .long 0]))]) := hD
  refine lv_dup hx hb dL_law_11 rfl ?_
  refine kvc (As := []) (rest := [.ref h7]) (isC := [33]) (isR := [0, 1, 2, 3, 4, 5, 6, 7, 8, 9, 10, 11, 12, 13, 14, 15, 16, 17, 18, 19, 20, 21, 22, 23, 24, 25, 26, 27, 28, 29, 30, 31, 32]) (wr := wC cI q.1 0 0 0 0 0 0 0 0 0 (fun _ => 0) (fun _ => 0) (fun _ => 0) 2 0 0 (fun _ => 0) (fun _ => 0) (fun _ => 0) (fun _ => 0) (fun _ => 0) 0 (fun _ => 0) (fun _ => 0) (fun _ => 0) (fun _ => 0) (fun _ => 0)) ⟨hx, hb, hml, hown, hts⟩ hP hK hD hS hA hG (k_X7_init l D cI cZ adK adV h7) (kcI hts (kin_4 _ (List.mem_of_getElem? (i := 20) rfl)) (kin_1 _ (List.mem_of_getElem? (i := 5) rfl)) (kin_4 _ (List.mem_of_getElem? (i := 19) rfl)) (kin_4 _ (List.mem_of_getElem? (i := 18) rfl)) rfl rfl rfl (by decide +kernel) ⟨Nat.le_of_ble_eq_true rfl, Nat.le_of_ble_eq_true rfl⟩) kBl_G kOk_G rfl rfl (by decide +kernel) rfl hl.1 rfl (Nat.le_of_ble_eq_true rfl) dL_law_12 ⟨Nat.le_of_ble_eq_true rfl, Nat.le_of_ble_eq_true rfl⟩ (fun u H locs hP hD hS => ?_)
  have hu0 : u.1 0 = h7 := u.2
  have hP : va_P D vwCl (wC cI q.1 0 0 0 0 0 0 0 0 0 (fun _ => 0) (fun _ => 0) (fun _ => 0) 2 0 0 (fun _ => 0) (fun _ => 0) (fun _ => 0) (fun _ => 0) (fun _ => 0) 0 (fun _ => 0) (fun _ => 0) (fun _ => 0) (fun _ => 0) (fun _ => 0) ++ wM cI cZ u.1 (fun _ => 0) (upd (fun _ => 0) 0 2) (fun _ => 0) (fun _ => 0) 0 (fun _ => 0) 0 0 (fun _ => 0) (fun _ => 0) (fun _ => 0) 0 0 0 0 0) H := hP
  have hD : va_D (fun q : Nat => s.heap.size ≤ q) (wC cI q.1 0 0 0 0 0 0 0 0 0 (fun _ => 0) (fun _ => 0) (fun _ => 0) 2 0 0 (fun _ => 0) (fun _ => 0) (fun _ => 0) (fun _ => 0) (fun _ => 0) 0 (fun _ => 0) (fun _ => 0) (fun _ => 0) (fun _ => 0) (fun _ => 0) ++ wM cI cZ u.1 (fun _ => 0) (upd (fun _ => 0) 0 2) (fun _ => 0) (fun _ => 0) 0 (fun _ => 0) 0 0 (fun _ => 0) (fun _ => 0) (fun _ => 0) 0 0 0 0 0) := hD
  refine lv_astore_n (lv' := [(2, .ref h7), (1, .ref h6), (0, .ref b)]) hx hb dL_law_15 rfl hl (by decide) rfl (fun ls hl => ?_)
  refine lv_iconst (v := 0) hx hb dL_law_16 (by decide) ?_
  refine lv_istore_n (lv' := [(3, .int 0), (2, .ref h7), (1, .ref h6), (0, .ref b)]) hx hb dL_law_17 rfl hl (by decide) rfl (fun ls hl => ?_)
  refine W.widen (k := 600000) (n := 7302250) (Nat.le_of_ble_eq_true rfl) (Nat.le_of_ble_eq_true rfl) ?_
  have hl : lv_has ls 4 [(0, .ref b), (1, .ref (q.1 0)), (2, .ref (u.1 0)), (3, .int 0)] := by rw [hq0, hu0]; exact lv_sub hl [3, 2, 1, 0] rfl
  exact law_loop hRA hRq C0 hL hK hG (L + 1) 0 0 (Nat.zero_le L) (by omega) nI_0.symm 0 0 0 0 0 0 0 0 0 (fun _ => 0) (fun _ => 0) (fun _ => 0) 2 0 0 (fun _ => 0) (fun _ => 0) (fun _ => 0) (fun _ => 0) (fun _ => 0) 0 (fun _ => 0) (fun _ => 0) (fun _ => 0) (fun _ => 0) (fun _ => 0) (fun _ => 0) (upd (fun _ => 0) 0 2) (fun _ => 0) (fun _ => 0) 0 (fun _ => 0) 0 0 (fun _ => 0) (fun _ => 0) (fun _ => 0) 0 0 0 0 0 hR0 H locs hP hD hS ls hl
