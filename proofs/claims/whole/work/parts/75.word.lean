/-! words: the seven, by letters and as one number -/
def spN (i k : Nat) : Nat := (([[112, 108, 97, 105, 110], [98, 97, 105, 108, 101, 100], [114, 101, 115, 101, 114, 118, 101, 100], [110, 105, 99, 107, 101, 100], [116, 111, 119, 110], [114, 117, 109, 111, 117, 114], [98, 101, 97, 114, 100]] : List (List Nat)).getD i []).getD k 0
def Mt (tx : Nat → Nat) (i b m : Nat) : Prop := m = kSl.getD i 0 ∧ ∀ k, k < m → tx (b + k) = spN i k
def cd (tx : Nat → Nat) (b : Nat) : Nat → Nat
  | 0 => 0
  | k + 1 => cd tx b k * 256 + tx (b + k)
def WV (tx : Nat → Nat) (b m : Nat) : Int64 := if m ≤ 8 then lN (cd tx b m) else 0
def kWd (i : Nat) : Nat := ([482854660462, 108170520061284, 8243121572520813924, 121398918604132, 1953462126, 125848672761202, 422607680100] : List Nat).getD i 0
set_option maxRecDepth 100000 in
theorem cw0 {tx : Nat → Nat} {b m : Nat} (hm : m ≤ 8) (hs : ∀ k, k < m → 97 ≤ tx (b + k) ∧ tx (b + k) ≤ 122) : cd tx b m = 482854660462 ↔ Mt tx 0 b m := by
  rcases (show m = 0 ∨ m = 1 ∨ m = 2 ∨ m = 3 ∨ m = 4 ∨ m = 5 ∨ m = 6 ∨ m = 7 ∨ m = 8 by omega) with rfl | rfl | rfl | rfl | rfl | rfl | rfl | rfl | rfl
  · constructor
    · intro e
      exfalso
      simp only [cd] at e
      omega
    · intro e
      exact absurd e.1 (by decide)
  · constructor
    · intro e
      exfalso
      have h0 := hs 0 (by omega)
      simp only [cd] at e
      omega
    · intro e
      exact absurd e.1 (by decide)
  · constructor
    · intro e
      exfalso
      have h0 := hs 0 (by omega)
      have h1 := hs 1 (by omega)
      simp only [cd] at e
      omega
    · intro e
      exact absurd e.1 (by decide)
  · constructor
    · intro e
      exfalso
      have h0 := hs 0 (by omega)
      have h1 := hs 1 (by omega)
      have h2 := hs 2 (by omega)
      simp only [cd] at e
      omega
    · intro e
      exact absurd e.1 (by decide)
  · constructor
    · intro e
      exfalso
      have h0 := hs 0 (by omega)
      have h1 := hs 1 (by omega)
      have h2 := hs 2 (by omega)
      have h3 := hs 3 (by omega)
      simp only [cd] at e
      omega
    · intro e
      exact absurd e.1 (by decide)
  · constructor
    · intro e
      have h0 := hs 0 (by omega)
      have h1 := hs 1 (by omega)
      have h2 := hs 2 (by omega)
      have h3 := hs 3 (by omega)
      have h4 := hs 4 (by omega)
      simp only [cd] at e
      refine ⟨rfl, fun k hk => ?_⟩
      rcases (show k = 0 ∨ k = 1 ∨ k = 2 ∨ k = 3 ∨ k = 4 by omega) with rfl | rfl | rfl | rfl | rfl
      · show tx (b + 0) = 112
        omega
      · show tx (b + 1) = 108
        omega
      · show tx (b + 2) = 97
        omega
      · show tx (b + 3) = 105
        omega
      · show tx (b + 4) = 110
        omega
    · intro e
      have e0 : tx (b + 0) = 112 := e.2 0 (by omega)
      have e1 : tx (b + 1) = 108 := e.2 1 (by omega)
      have e2 : tx (b + 2) = 97 := e.2 2 (by omega)
      have e3 : tx (b + 3) = 105 := e.2 3 (by omega)
      have e4 : tx (b + 4) = 110 := e.2 4 (by omega)
      simp only [cd]
      omega
  · constructor
    · intro e
      exfalso
      have h0 := hs 0 (by omega)
      have h1 := hs 1 (by omega)
      have h2 := hs 2 (by omega)
      have h3 := hs 3 (by omega)
      have h4 := hs 4 (by omega)
      have h5 := hs 5 (by omega)
      simp only [cd] at e
      omega
    · intro e
      exact absurd e.1 (by decide)
  · constructor
    · intro e
      exfalso
      have h0 := hs 0 (by omega)
      have h1 := hs 1 (by omega)
      have h2 := hs 2 (by omega)
      have h3 := hs 3 (by omega)
      have h4 := hs 4 (by omega)
      have h5 := hs 5 (by omega)
      have h6 := hs 6 (by omega)
      simp only [cd] at e
      omega
    · intro e
      exact absurd e.1 (by decide)
  · constructor
    · intro e
      exfalso
      have h0 := hs 0 (by omega)
      have h1 := hs 1 (by omega)
      have h2 := hs 2 (by omega)
      have h3 := hs 3 (by omega)
      have h4 := hs 4 (by omega)
      have h5 := hs 5 (by omega)
      have h6 := hs 6 (by omega)
      have h7 := hs 7 (by omega)
      simp only [cd] at e
      omega
    · intro e
      exact absurd e.1 (by decide)
set_option maxRecDepth 100000 in
theorem cw1 {tx : Nat → Nat} {b m : Nat} (hm : m ≤ 8) (hs : ∀ k, k < m → 97 ≤ tx (b + k) ∧ tx (b + k) ≤ 122) : cd tx b m = 108170520061284 ↔ Mt tx 1 b m := by
  rcases (show m = 0 ∨ m = 1 ∨ m = 2 ∨ m = 3 ∨ m = 4 ∨ m = 5 ∨ m = 6 ∨ m = 7 ∨ m = 8 by omega) with rfl | rfl | rfl | rfl | rfl | rfl | rfl | rfl | rfl
  · constructor
    · intro e
      exfalso
      simp only [cd] at e
      omega
    · intro e
      exact absurd e.1 (by decide)
  · constructor
    · intro e
      exfalso
      have h0 := hs 0 (by omega)
      simp only [cd] at e
      omega
    · intro e
      exact absurd e.1 (by decide)
  · constructor
    · intro e
      exfalso
      have h0 := hs 0 (by omega)
      have h1 := hs 1 (by omega)
      simp only [cd] at e
      omega
    · intro e
      exact absurd e.1 (by decide)
  · constructor
    · intro e
      exfalso
      have h0 := hs 0 (by omega)
      have h1 := hs 1 (by omega)
      have h2 := hs 2 (by omega)
      simp only [cd] at e
      omega
    · intro e
      exact absurd e.1 (by decide)
  · constructor
    · intro e
      exfalso
      have h0 := hs 0 (by omega)
      have h1 := hs 1 (by omega)
      have h2 := hs 2 (by omega)
      have h3 := hs 3 (by omega)
      simp only [cd] at e
      omega
    · intro e
      exact absurd e.1 (by decide)
  · constructor
    · intro e
      exfalso
      have h0 := hs 0 (by omega)
      have h1 := hs 1 (by omega)
      have h2 := hs 2 (by omega)
      have h3 := hs 3 (by omega)
      have h4 := hs 4 (by omega)
      simp only [cd] at e
      omega
    · intro e
      exact absurd e.1 (by decide)
  · constructor
    · intro e
      have h0 := hs 0 (by omega)
      have h1 := hs 1 (by omega)
      have h2 := hs 2 (by omega)
      have h3 := hs 3 (by omega)
      have h4 := hs 4 (by omega)
      have h5 := hs 5 (by omega)
      simp only [cd] at e
      refine ⟨rfl, fun k hk => ?_⟩
      rcases (show k = 0 ∨ k = 1 ∨ k = 2 ∨ k = 3 ∨ k = 4 ∨ k = 5 by omega) with rfl | rfl | rfl | rfl | rfl | rfl
      · show tx (b + 0) = 98
        omega
      · show tx (b + 1) = 97
        omega
      · show tx (b + 2) = 105
        omega
      · show tx (b + 3) = 108
        omega
      · show tx (b + 4) = 101
        omega
      · show tx (b + 5) = 100
        omega
    · intro e
      have e0 : tx (b + 0) = 98 := e.2 0 (by omega)
      have e1 : tx (b + 1) = 97 := e.2 1 (by omega)
      have e2 : tx (b + 2) = 105 := e.2 2 (by omega)
      have e3 : tx (b + 3) = 108 := e.2 3 (by omega)
      have e4 : tx (b + 4) = 101 := e.2 4 (by omega)
      have e5 : tx (b + 5) = 100 := e.2 5 (by omega)
      simp only [cd]
      omega
  · constructor
    · intro e
      exfalso
      have h0 := hs 0 (by omega)
      have h1 := hs 1 (by omega)
      have h2 := hs 2 (by omega)
      have h3 := hs 3 (by omega)
      have h4 := hs 4 (by omega)
      have h5 := hs 5 (by omega)
      have h6 := hs 6 (by omega)
      simp only [cd] at e
      omega
    · intro e
      exact absurd e.1 (by decide)
  · constructor
    · intro e
      exfalso
      have h0 := hs 0 (by omega)
      have h1 := hs 1 (by omega)
      have h2 := hs 2 (by omega)
      have h3 := hs 3 (by omega)
      have h4 := hs 4 (by omega)
      have h5 := hs 5 (by omega)
      have h6 := hs 6 (by omega)
      have h7 := hs 7 (by omega)
      simp only [cd] at e
      omega
    · intro e
      exact absurd e.1 (by decide)
set_option maxRecDepth 100000 in
theorem cw2 {tx : Nat → Nat} {b m : Nat} (hm : m ≤ 8) (hs : ∀ k, k < m → 97 ≤ tx (b + k) ∧ tx (b + k) ≤ 122) : cd tx b m = 8243121572520813924 ↔ Mt tx 2 b m := by
  rcases (show m = 0 ∨ m = 1 ∨ m = 2 ∨ m = 3 ∨ m = 4 ∨ m = 5 ∨ m = 6 ∨ m = 7 ∨ m = 8 by omega) with rfl | rfl | rfl | rfl | rfl | rfl | rfl | rfl | rfl
  · constructor
    · intro e
      exfalso
      simp only [cd] at e
      omega
    · intro e
      exact absurd e.1 (by decide)
  · constructor
    · intro e
      exfalso
      have h0 := hs 0 (by omega)
      simp only [cd] at e
      omega
    · intro e
      exact absurd e.1 (by decide)
  · constructor
    · intro e
      exfalso
      have h0 := hs 0 (by omega)
      have h1 := hs 1 (by omega)
      simp only [cd] at e
      omega
    · intro e
      exact absurd e.1 (by decide)
  · constructor
    · intro e
      exfalso
      have h0 := hs 0 (by omega)
      have h1 := hs 1 (by omega)
      have h2 := hs 2 (by omega)
      simp only [cd] at e
      omega
    · intro e
      exact absurd e.1 (by decide)
  · constructor
    · intro e
      exfalso
      have h0 := hs 0 (by omega)
      have h1 := hs 1 (by omega)
      have h2 := hs 2 (by omega)
      have h3 := hs 3 (by omega)
      simp only [cd] at e
      omega
    · intro e
      exact absurd e.1 (by decide)
  · constructor
    · intro e
      exfalso
      have h0 := hs 0 (by omega)
      have h1 := hs 1 (by omega)
      have h2 := hs 2 (by omega)
      have h3 := hs 3 (by omega)
      have h4 := hs 4 (by omega)
      simp only [cd] at e
      omega
    · intro e
      exact absurd e.1 (by decide)
  · constructor
    · intro e
      exfalso
      have h0 := hs 0 (by omega)
      have h1 := hs 1 (by omega)
      have h2 := hs 2 (by omega)
      have h3 := hs 3 (by omega)
      have h4 := hs 4 (by omega)
      have h5 := hs 5 (by omega)
      simp only [cd] at e
      omega
    · intro e
      exact absurd e.1 (by decide)
  · constructor
    · intro e
      exfalso
      have h0 := hs 0 (by omega)
      have h1 := hs 1 (by omega)
      have h2 := hs 2 (by omega)
      have h3 := hs 3 (by omega)
      have h4 := hs 4 (by omega)
      have h5 := hs 5 (by omega)
      have h6 := hs 6 (by omega)
      simp only [cd] at e
      omega
    · intro e
      exact absurd e.1 (by decide)
  · constructor
    · intro e
      have h0 := hs 0 (by omega)
      have h1 := hs 1 (by omega)
      have h2 := hs 2 (by omega)
      have h3 := hs 3 (by omega)
      have h4 := hs 4 (by omega)
      have h5 := hs 5 (by omega)
      have h6 := hs 6 (by omega)
      have h7 := hs 7 (by omega)
      simp only [cd] at e
      refine ⟨rfl, fun k hk => ?_⟩
      rcases (show k = 0 ∨ k = 1 ∨ k = 2 ∨ k = 3 ∨ k = 4 ∨ k = 5 ∨ k = 6 ∨ k = 7 by omega) with rfl | rfl | rfl | rfl | rfl | rfl | rfl | rfl
      · show tx (b + 0) = 114
        omega
      · show tx (b + 1) = 101
        omega
      · show tx (b + 2) = 115
        omega
      · show tx (b + 3) = 101
        omega
      · show tx (b + 4) = 114
        omega
      · show tx (b + 5) = 118
        omega
      · show tx (b + 6) = 101
        omega
      · show tx (b + 7) = 100
        omega
    · intro e
      have e0 : tx (b + 0) = 114 := e.2 0 (by omega)
      have e1 : tx (b + 1) = 101 := e.2 1 (by omega)
      have e2 : tx (b + 2) = 115 := e.2 2 (by omega)
      have e3 : tx (b + 3) = 101 := e.2 3 (by omega)
      have e4 : tx (b + 4) = 114 := e.2 4 (by omega)
      have e5 : tx (b + 5) = 118 := e.2 5 (by omega)
      have e6 : tx (b + 6) = 101 := e.2 6 (by omega)
      have e7 : tx (b + 7) = 100 := e.2 7 (by omega)
      simp only [cd]
      omega
set_option maxRecDepth 100000 in
theorem cw3 {tx : Nat → Nat} {b m : Nat} (hm : m ≤ 8) (hs : ∀ k, k < m → 97 ≤ tx (b + k) ∧ tx (b + k) ≤ 122) : cd tx b m = 121398918604132 ↔ Mt tx 3 b m := by
  rcases (show m = 0 ∨ m = 1 ∨ m = 2 ∨ m = 3 ∨ m = 4 ∨ m = 5 ∨ m = 6 ∨ m = 7 ∨ m = 8 by omega) with rfl | rfl | rfl | rfl | rfl | rfl | rfl | rfl | rfl
  · constructor
    · intro e
      exfalso
      simp only [cd] at e
      omega
    · intro e
      exact absurd e.1 (by decide)
  · constructor
    · intro e
      exfalso
      have h0 := hs 0 (by omega)
      simp only [cd] at e
      omega
    · intro e
      exact absurd e.1 (by decide)
  · constructor
    · intro e
      exfalso
      have h0 := hs 0 (by omega)
      have h1 := hs 1 (by omega)
      simp only [cd] at e
      omega
    · intro e
      exact absurd e.1 (by decide)
  · constructor
    · intro e
      exfalso
      have h0 := hs 0 (by omega)
      have h1 := hs 1 (by omega)
      have h2 := hs 2 (by omega)
      simp only [cd] at e
      omega
    · intro e
      exact absurd e.1 (by decide)
  · constructor
    · intro e
      exfalso
      have h0 := hs 0 (by omega)
      have h1 := hs 1 (by omega)
      have h2 := hs 2 (by omega)
      have h3 := hs 3 (by omega)
      simp only [cd] at e
      omega
    · intro e
      exact absurd e.1 (by decide)
  · constructor
    · intro e
      exfalso
      have h0 := hs 0 (by omega)
      have h1 := hs 1 (by omega)
      have h2 := hs 2 (by omega)
      have h3 := hs 3 (by omega)
      have h4 := hs 4 (by omega)
      simp only [cd] at e
      omega
    · intro e
      exact absurd e.1 (by decide)
  · constructor
    · intro e
      have h0 := hs 0 (by omega)
      have h1 := hs 1 (by omega)
      have h2 := hs 2 (by omega)
      have h3 := hs 3 (by omega)
      have h4 := hs 4 (by omega)
      have h5 := hs 5 (by omega)
      simp only [cd] at e
      refine ⟨rfl, fun k hk => ?_⟩
      rcases (show k = 0 ∨ k = 1 ∨ k = 2 ∨ k = 3 ∨ k = 4 ∨ k = 5 by omega) with rfl | rfl | rfl | rfl | rfl | rfl
      · show tx (b + 0) = 110
        omega
      · show tx (b + 1) = 105
        omega
      · show tx (b + 2) = 99
        omega
      · show tx (b + 3) = 107
        omega
      · show tx (b + 4) = 101
        omega
      · show tx (b + 5) = 100
        omega
    · intro e
      have e0 : tx (b + 0) = 110 := e.2 0 (by omega)
      have e1 : tx (b + 1) = 105 := e.2 1 (by omega)
      have e2 : tx (b + 2) = 99 := e.2 2 (by omega)
      have e3 : tx (b + 3) = 107 := e.2 3 (by omega)
      have e4 : tx (b + 4) = 101 := e.2 4 (by omega)
      have e5 : tx (b + 5) = 100 := e.2 5 (by omega)
      simp only [cd]
      omega
  · constructor
    · intro e
      exfalso
      have h0 := hs 0 (by omega)
      have h1 := hs 1 (by omega)
      have h2 := hs 2 (by omega)
      have h3 := hs 3 (by omega)
      have h4 := hs 4 (by omega)
      have h5 := hs 5 (by omega)
      have h6 := hs 6 (by omega)
      simp only [cd] at e
      omega
    · intro e
      exact absurd e.1 (by decide)
  · constructor
    · intro e
      exfalso
      have h0 := hs 0 (by omega)
      have h1 := hs 1 (by omega)
      have h2 := hs 2 (by omega)
      have h3 := hs 3 (by omega)
      have h4 := hs 4 (by omega)
      have h5 := hs 5 (by omega)
      have h6 := hs 6 (by omega)
      have h7 := hs 7 (by omega)
      simp only [cd] at e
      omega
    · intro e
      exact absurd e.1 (by decide)
set_option maxRecDepth 100000 in
theorem cw4 {tx : Nat → Nat} {b m : Nat} (hm : m ≤ 8) (hs : ∀ k, k < m → 97 ≤ tx (b + k) ∧ tx (b + k) ≤ 122) : cd tx b m = 1953462126 ↔ Mt tx 4 b m := by
  rcases (show m = 0 ∨ m = 1 ∨ m = 2 ∨ m = 3 ∨ m = 4 ∨ m = 5 ∨ m = 6 ∨ m = 7 ∨ m = 8 by omega) with rfl | rfl | rfl | rfl | rfl | rfl | rfl | rfl | rfl
  · constructor
    · intro e
      exfalso
      simp only [cd] at e
      omega
    · intro e
      exact absurd e.1 (by decide)
  · constructor
    · intro e
      exfalso
      have h0 := hs 0 (by omega)
      simp only [cd] at e
      omega
    · intro e
      exact absurd e.1 (by decide)
  · constructor
    · intro e
      exfalso
      have h0 := hs 0 (by omega)
      have h1 := hs 1 (by omega)
      simp only [cd] at e
      omega
    · intro e
      exact absurd e.1 (by decide)
  · constructor
    · intro e
      exfalso
      have h0 := hs 0 (by omega)
      have h1 := hs 1 (by omega)
      have h2 := hs 2 (by omega)
      simp only [cd] at e
      omega
    · intro e
      exact absurd e.1 (by decide)
  · constructor
    · intro e
      have h0 := hs 0 (by omega)
      have h1 := hs 1 (by omega)
      have h2 := hs 2 (by omega)
      have h3 := hs 3 (by omega)
      simp only [cd] at e
      refine ⟨rfl, fun k hk => ?_⟩
      rcases (show k = 0 ∨ k = 1 ∨ k = 2 ∨ k = 3 by omega) with rfl | rfl | rfl | rfl
      · show tx (b + 0) = 116
        omega
      · show tx (b + 1) = 111
        omega
      · show tx (b + 2) = 119
        omega
      · show tx (b + 3) = 110
        omega
    · intro e
      have e0 : tx (b + 0) = 116 := e.2 0 (by omega)
      have e1 : tx (b + 1) = 111 := e.2 1 (by omega)
      have e2 : tx (b + 2) = 119 := e.2 2 (by omega)
      have e3 : tx (b + 3) = 110 := e.2 3 (by omega)
      simp only [cd]
      omega
  · constructor
    · intro e
      exfalso
      have h0 := hs 0 (by omega)
      have h1 := hs 1 (by omega)
      have h2 := hs 2 (by omega)
      have h3 := hs 3 (by omega)
      have h4 := hs 4 (by omega)
      simp only [cd] at e
      omega
    · intro e
      exact absurd e.1 (by decide)
  · constructor
    · intro e
      exfalso
      have h0 := hs 0 (by omega)
      have h1 := hs 1 (by omega)
      have h2 := hs 2 (by omega)
      have h3 := hs 3 (by omega)
      have h4 := hs 4 (by omega)
      have h5 := hs 5 (by omega)
      simp only [cd] at e
      omega
    · intro e
      exact absurd e.1 (by decide)
  · constructor
    · intro e
      exfalso
      have h0 := hs 0 (by omega)
      have h1 := hs 1 (by omega)
      have h2 := hs 2 (by omega)
      have h3 := hs 3 (by omega)
      have h4 := hs 4 (by omega)
      have h5 := hs 5 (by omega)
      have h6 := hs 6 (by omega)
      simp only [cd] at e
      omega
    · intro e
      exact absurd e.1 (by decide)
  · constructor
    · intro e
      exfalso
      have h0 := hs 0 (by omega)
      have h1 := hs 1 (by omega)
      have h2 := hs 2 (by omega)
      have h3 := hs 3 (by omega)
      have h4 := hs 4 (by omega)
      have h5 := hs 5 (by omega)
      have h6 := hs 6 (by omega)
      have h7 := hs 7 (by omega)
      simp only [cd] at e
      omega
    · intro e
      exact absurd e.1 (by decide)
set_option maxRecDepth 100000 in
theorem cw5 {tx : Nat → Nat} {b m : Nat} (hm : m ≤ 8) (hs : ∀ k, k < m → 97 ≤ tx (b + k) ∧ tx (b + k) ≤ 122) : cd tx b m = 125848672761202 ↔ Mt tx 5 b m := by
  rcases (show m = 0 ∨ m = 1 ∨ m = 2 ∨ m = 3 ∨ m = 4 ∨ m = 5 ∨ m = 6 ∨ m = 7 ∨ m = 8 by omega) with rfl | rfl | rfl | rfl | rfl | rfl | rfl | rfl | rfl
  · constructor
    · intro e
      exfalso
      simp only [cd] at e
      omega
    · intro e
      exact absurd e.1 (by decide)
  · constructor
    · intro e
      exfalso
      have h0 := hs 0 (by omega)
      simp only [cd] at e
      omega
    · intro e
      exact absurd e.1 (by decide)
  · constructor
    · intro e
      exfalso
      have h0 := hs 0 (by omega)
      have h1 := hs 1 (by omega)
      simp only [cd] at e
      omega
    · intro e
      exact absurd e.1 (by decide)
  · constructor
    · intro e
      exfalso
      have h0 := hs 0 (by omega)
      have h1 := hs 1 (by omega)
      have h2 := hs 2 (by omega)
      simp only [cd] at e
      omega
    · intro e
      exact absurd e.1 (by decide)
  · constructor
    · intro e
      exfalso
      have h0 := hs 0 (by omega)
      have h1 := hs 1 (by omega)
      have h2 := hs 2 (by omega)
      have h3 := hs 3 (by omega)
      simp only [cd] at e
      omega
    · intro e
      exact absurd e.1 (by decide)
  · constructor
    · intro e
      exfalso
      have h0 := hs 0 (by omega)
      have h1 := hs 1 (by omega)
      have h2 := hs 2 (by omega)
      have h3 := hs 3 (by omega)
      have h4 := hs 4 (by omega)
      simp only [cd] at e
      omega
    · intro e
      exact absurd e.1 (by decide)
  · constructor
    · intro e
      have h0 := hs 0 (by omega)
      have h1 := hs 1 (by omega)
      have h2 := hs 2 (by omega)
      have h3 := hs 3 (by omega)
      have h4 := hs 4 (by omega)
      have h5 := hs 5 (by omega)
      simp only [cd] at e
      refine ⟨rfl, fun k hk => ?_⟩
      rcases (show k = 0 ∨ k = 1 ∨ k = 2 ∨ k = 3 ∨ k = 4 ∨ k = 5 by omega) with rfl | rfl | rfl | rfl | rfl | rfl
      · show tx (b + 0) = 114
        omega
      · show tx (b + 1) = 117
        omega
      · show tx (b + 2) = 109
        omega
      · show tx (b + 3) = 111
        omega
      · show tx (b + 4) = 117
        omega
      · show tx (b + 5) = 114
        omega
    · intro e
      have e0 : tx (b + 0) = 114 := e.2 0 (by omega)
      have e1 : tx (b + 1) = 117 := e.2 1 (by omega)
      have e2 : tx (b + 2) = 109 := e.2 2 (by omega)
      have e3 : tx (b + 3) = 111 := e.2 3 (by omega)
      have e4 : tx (b + 4) = 117 := e.2 4 (by omega)
      have e5 : tx (b + 5) = 114 := e.2 5 (by omega)
      simp only [cd]
      omega
  · constructor
    · intro e
      exfalso
      have h0 := hs 0 (by omega)
      have h1 := hs 1 (by omega)
      have h2 := hs 2 (by omega)
      have h3 := hs 3 (by omega)
      have h4 := hs 4 (by omega)
      have h5 := hs 5 (by omega)
      have h6 := hs 6 (by omega)
      simp only [cd] at e
      omega
    · intro e
      exact absurd e.1 (by decide)
  · constructor
    · intro e
      exfalso
      have h0 := hs 0 (by omega)
      have h1 := hs 1 (by omega)
      have h2 := hs 2 (by omega)
      have h3 := hs 3 (by omega)
      have h4 := hs 4 (by omega)
      have h5 := hs 5 (by omega)
      have h6 := hs 6 (by omega)
      have h7 := hs 7 (by omega)
      simp only [cd] at e
      omega
    · intro e
      exact absurd e.1 (by decide)
set_option maxRecDepth 100000 in
theorem cw6 {tx : Nat → Nat} {b m : Nat} (hm : m ≤ 8) (hs : ∀ k, k < m → 97 ≤ tx (b + k) ∧ tx (b + k) ≤ 122) : cd tx b m = 422607680100 ↔ Mt tx 6 b m := by
  rcases (show m = 0 ∨ m = 1 ∨ m = 2 ∨ m = 3 ∨ m = 4 ∨ m = 5 ∨ m = 6 ∨ m = 7 ∨ m = 8 by omega) with rfl | rfl | rfl | rfl | rfl | rfl | rfl | rfl | rfl
  · constructor
    · intro e
      exfalso
      simp only [cd] at e
      omega
    · intro e
      exact absurd e.1 (by decide)
  · constructor
    · intro e
      exfalso
      have h0 := hs 0 (by omega)
      simp only [cd] at e
      omega
    · intro e
      exact absurd e.1 (by decide)
  · constructor
    · intro e
      exfalso
      have h0 := hs 0 (by omega)
      have h1 := hs 1 (by omega)
      simp only [cd] at e
      omega
    · intro e
      exact absurd e.1 (by decide)
  · constructor
    · intro e
      exfalso
      have h0 := hs 0 (by omega)
      have h1 := hs 1 (by omega)
      have h2 := hs 2 (by omega)
      simp only [cd] at e
      omega
    · intro e
      exact absurd e.1 (by decide)
  · constructor
    · intro e
      exfalso
      have h0 := hs 0 (by omega)
      have h1 := hs 1 (by omega)
      have h2 := hs 2 (by omega)
      have h3 := hs 3 (by omega)
      simp only [cd] at e
      omega
    · intro e
      exact absurd e.1 (by decide)
  · constructor
    · intro e
      have h0 := hs 0 (by omega)
      have h1 := hs 1 (by omega)
      have h2 := hs 2 (by omega)
      have h3 := hs 3 (by omega)
      have h4 := hs 4 (by omega)
      simp only [cd] at e
      refine ⟨rfl, fun k hk => ?_⟩
      rcases (show k = 0 ∨ k = 1 ∨ k = 2 ∨ k = 3 ∨ k = 4 by omega) with rfl | rfl | rfl | rfl | rfl
      · show tx (b + 0) = 98
        omega
      · show tx (b + 1) = 101
        omega
      · show tx (b + 2) = 97
        omega
      · show tx (b + 3) = 114
        omega
      · show tx (b + 4) = 100
        omega
    · intro e
      have e0 : tx (b + 0) = 98 := e.2 0 (by omega)
      have e1 : tx (b + 1) = 101 := e.2 1 (by omega)
      have e2 : tx (b + 2) = 97 := e.2 2 (by omega)
      have e3 : tx (b + 3) = 114 := e.2 3 (by omega)
      have e4 : tx (b + 4) = 100 := e.2 4 (by omega)
      simp only [cd]
      omega
  · constructor
    · intro e
      exfalso
      have h0 := hs 0 (by omega)
      have h1 := hs 1 (by omega)
      have h2 := hs 2 (by omega)
      have h3 := hs 3 (by omega)
      have h4 := hs 4 (by omega)
      have h5 := hs 5 (by omega)
      simp only [cd] at e
      omega
    · intro e
      exact absurd e.1 (by decide)
  · constructor
    · intro e
      exfalso
      have h0 := hs 0 (by omega)
      have h1 := hs 1 (by omega)
      have h2 := hs 2 (by omega)
      have h3 := hs 3 (by omega)
      have h4 := hs 4 (by omega)
      have h5 := hs 5 (by omega)
      have h6 := hs 6 (by omega)
      simp only [cd] at e
      omega
    · intro e
      exact absurd e.1 (by decide)
  · constructor
    · intro e
      exfalso
      have h0 := hs 0 (by omega)
      have h1 := hs 1 (by omega)
      have h2 := hs 2 (by omega)
      have h3 := hs 3 (by omega)
      have h4 := hs 4 (by omega)
      have h5 := hs 5 (by omega)
      have h6 := hs 6 (by omega)
      have h7 := hs 7 (by omega)
      simp only [cd] at e
      omega
    · intro e
      exact absurd e.1 (by decide)
theorem lN_inj {a b : Nat} (ha : a < 2 ^ 64) (hb : b < 2 ^ 64) : lN a = lN b ↔ a = b := by
  constructor
  · intro h
    have h1 : (BitVec.ofNat 64 a).toNat = (BitVec.ofNat 64 b).toNat := congrArg (fun z => z.toBitVec.toNat) h
    rw [BitVec.toNat_ofNat, BitVec.toNat_ofNat, Nat.mod_eq_of_lt ha, Nat.mod_eq_of_lt hb] at h1
    exact h1
  · intro h; rw [h]
theorem cd_lt {tx : Nat → Nat} {b : Nat} : ∀ {m : Nat}, (∀ k, k < m → tx (b + k) < 256) → cd tx b m < 256 ^ m
  | 0, _ => by show (0 : Nat) < 1; omega
  | m + 1, h => by
    have h1 := cd_lt (m := m) (fun k hk => h k (by omega))
    have h2 := h m (by omega)
    show cd tx b m * 256 + tx (b + m) < 256 ^ (m + 1)
    rw [Nat.pow_succ]
    omega
theorem shl8 {c t : Nat} (hc : c < 2 ^ 56) (ht : t < 256) : (lN c <<< ((8 : Int32).toInt64 &&& 63)) ||| (nI t).toInt64 = lN (c * 256 + t) := by
  have e1 : (((8 : Int32).toInt64 &&& 63).toBitVec.smod 64).toNat = 8 := by decide +kernel
  have e2 : (nI t).toInt64 = lN t := nI_l (by omega)
  rw [e2]
  refine Int64.toBitVec_inj.mp ?_
  rw [Int64.toBitVec_or, Int64.toBitVec_shiftLeft]
  show ((BitVec.ofNat 64 c) <<< (((8 : Int32).toInt64 &&& 63).toBitVec.smod 64).toNat) ||| BitVec.ofNat 64 t = BitVec.ofNat 64 (c * 256 + t)
  rw [e1]
  refine BitVec.eq_of_toNat_eq ?_
  rw [BitVec.toNat_or, BitVec.toNat_shiftLeft, BitVec.toNat_ofNat, BitVec.toNat_ofNat, BitVec.toNat_ofNat, Nat.mod_eq_of_lt (show c < 2 ^ 64 by omega), Nat.mod_eq_of_lt (show t < 2 ^ 64 by omega), Nat.mod_eq_of_lt (show c * 256 + t < 2 ^ 64 by omega)]
  have e3 : c <<< 8 = c * 256 := by rw [Nat.shiftLeft_eq]
  rw [Nat.mod_eq_of_lt (show c <<< 8 < 2 ^ 64 by rw [e3]; omega), ← Nat.shiftLeft_add_eq_or_of_lt (by omega), e3]
section WX
variable {n : Nat} {tx : Nat → Nat} {lets text : Nat → Int32}
theorem sub_at {a b : Nat} (h : b ≤ a) (ha : a ≤ 160) : nI a - nI b = nI (a - b) := nI_sub h (by omega)
theorem small7 (h : TXT n tx lets text) {at_ : Int32} {b : Nat} (hb : f_X7_begins text (nI n) at_ = (nI b, nI b)) : ∀ (fuel i : Nat), b ≤ i → i ≤ n → n - i < fuel → ∃ r, r ≤ n ∧ En (SoAt n tx 1) i r ∧ lo_X7_takesWord_9 text (nI n) at_ fuel (nI i) (WV tx b (i - b)) = (nI r, WV tx b (r - b)) := by
  have hn := h.1
  intro fuel
  induction fuel with
  | zero => exact fun i _ _ h2 => absurd h2 (by omega)
  | succ fuel ih =>
    intro i hbi hi hf
    show ∃ r, r ≤ n ∧ En (SoAt n tx 1) i r ∧ (if f_X7_isSmall text (nI n) (nI i) = 0 then (nI i, WV tx b (i - b)) else lo_X7_takesWord_9 text (nI n) at_ fuel (nI i + 1) (v_X7_takesWord_32_0 text (nI n) at_ (nI i) (WV tx b (i - b)))) = (nI r, WV tx b (r - b))
    by_cases c : SoAt n tx 1 i
    · rw [if_neg (fun z => absurd c ((isSmall_at h hi).mp z)), nI_1]
      have hin := c.1
      have e : v_X7_takesWord_32_0 text (nI n) at_ (nI i) (WV tx b (i - b)) = WV tx b (i + 1 - b) := by
        unfold v_X7_takesWord_32_0
        rw [hb]
        dsimp only
        rw [sub_at hbi (by omega), letterAt_in h hin]
        by_cases c8 : 8 ≤ i - b
        · rw [if_pos (show (8 : Int32) ≤ nI (i - b) from (nI_leI (a := 8) (by omega) (by omega)).mpr c8)]
          unfold WV
          rw [if_neg (by omega)]
        · rw [if_neg (show ¬ (8 : Int32) ≤ nI (i - b) from fun z => c8 ((nI_leI (a := 8) (by omega) (by omega)).mp z))]
          unfold WV
          rw [if_pos (by omega), if_pos (by omega)]
          have hcd : cd tx b (i - b) < 256 ^ (i - b) := cd_lt (fun k hk => (h.2 (b + k) (by omega)).2.2)
          have hp : (256 : Nat) ^ (i - b) ≤ 256 ^ 7 := Nat.pow_le_pow_right (by omega) (by omega)
          have h56 : (256 : Nat) ^ 7 = 2 ^ 56 := by decide
          rw [shl8 (by omega) (h.2 i hin).2.2]
          rw [show i + 1 - b = (i - b) + 1 by omega]
          show _ = lN (cd tx b (i - b) * 256 + tx (b + (i - b)))
          rw [show b + (i - b) = i by omega]
      rw [e]
      obtain ⟨r, r1, r2, r3⟩ := ih (i + 1) (by omega) (by omega) (by omega)
      exact ⟨r, r1, r2.next c, r3⟩
    · rw [if_pos ((isSmall_at h hi).mpr c)]
      exact ⟨i, hi, En.here c, rfl⟩
theorem word7 (h : TXT n tx lets text) {e b : Nat} (hb : b ≤ n) (hbe : f_X7_begins text (nI n) (nI e) = (nI b, nI b)) : ∃ r, r ≤ n ∧ En (SoAt n tx 1) b r ∧ f_X7_takesWord text (nI n) (nI e) = (nI r, nI b, WV tx b (r - b)) := by
  have hn := h.1
  obtain ⟨r, r1, r2, r3⟩ := small7 h hbe (n - b + 1) b (Nat.le_refl b) hb (by omega)
  refine ⟨r, r1, r2, ?_⟩
  have e9 : x_X7_takesWord_9 text (nI n) (nI e) = (nI r, WV tx b (r - b)) := by
    unfold x_X7_takesWord_9
    rw [hbe]
    dsimp only
    rw [fuel_of hn hb]
    have e0 : WV tx b (b - b) = 0 := by
      rw [Nat.sub_self]; rfl
    rw [← r3, e0]
  unfold f_X7_takesWord v_X7_takesWord_84_0
  rw [e9, hbe]
  dsimp only
  rw [sub_at r2.1 (by omega)]
  by_cases c : r - b ≤ 8
  · rw [if_pos (show nI (r - b) ≤ (8 : Int32) from (nI_leI (b := 8) (by omega) (by omega)).mpr c)]
  · rw [if_neg (show ¬ nI (r - b) ≤ (8 : Int32) from fun z => c ((nI_leI (b := 8) (by omega) (by omega)).mp z))]
    unfold WV
    rw [if_neg c]
/-! the class's word -/
theorem kch_at (i k : Nat) (hi : i < 7) (hk : k < 8) : kch i k = nI (spN i k) ∧ spN i k < 256 := by
  have key : ∀ (i : Fin 7) (k : Fin 8), kch i.1 k.1 = nI (spN i.1 k.1) ∧ spN i.1 k.1 < 256 := by decide +kernel
  exact key ⟨i, hi⟩ ⟨k, hk⟩
theorem kSl_le (i : Nat) (hi : i < 7) : kSl.getD i 0 ≤ 8 ∧ 4 ≤ kSl.getD i 0 := by
  have key : ∀ i : Fin 7, kSl.getD i.1 0 ≤ 8 ∧ 4 ≤ kSl.getD i.1 0 := by decide +kernel
  exact key ⟨i, hi⟩
theorem isHere_at (h : TXT n tx lets text) {b f j : Nat} (hbf : b ≤ f) (hf : f ≤ n) (hj : j < 7) : (f_X1_isHere (nI b) (nI f) lets j = 0) ↔ ¬ Mt tx j b (f - b) := by
  have hn := h.1
  have hk8 := (kSl_le j hj).1
  unfold f_X1_isHere Mt
  rw [sub_at hbf (by omega)]
  by_cases c : f - b = kSl.getD j 0
  · rw [if_pos (by rw [c])]
    have key : ∀ k i, i + k = kSl.getD j 0 → ((lo_X1_isHere_20 (nI b) lets j k i = 0) ↔ ¬ ∀ q, i ≤ q → q < f - b → tx (b + q) = spN j q) := by
      intro k
      induction k with
      | zero =>
        intro i hik
        show ((1 : Int32) = 0) ↔ _
        constructor
        · exact fun z => absurd z (by decide)
        · exact fun z => absurd (fun q h1 h2 => absurd h2 (by omega)) z
      | succ k ih =>
        intro i hik
        show ((if f_X0_at 160 lets (nI b + nI i) = kch j i then lo_X1_isHere_20 (nI b) lets j k (i + 1) else 0) = 0) ↔ _
        rw [nI_add, let_at h (by omega), (kch_at j i hj (by omega)).1]
        have hlt := (h.2 (b + i) (by omega)).2.2
        have hsp := (kch_at j i hj (by omega)).2
        by_cases c2 : tx (b + i) = spN j i
        · rw [if_pos (by rw [c2]), ih (i + 1) (by omega)]
          constructor
          · intro z z2
            exact z (fun q h1 h2 => z2 q (by omega) h2)
          · intro z z2
            refine z (fun q h1 h2 => ?_)
            by_cases e : q = i
            · subst e; exact c2
            · exact z2 q (by omega) h2
        · rw [if_neg (lits _ _ (by omega) (by omega) c2)]
          constructor
          · exact fun _ z => c2 (z i (Nat.le_refl i) (by omega))
          · exact fun _ => rfl
    rw [key (kSl.getD j 0) 0 (by omega)]
    constructor
    · intro z z2
      exact z (fun q _ h2 => z2.2 q h2)
    · intro z z2
      exact z ⟨c, fun q h2 => z2 q (Nat.zero_le q) h2⟩
  · rw [if_neg (lits _ _ (by omega) (by omega) c)]
    constructor
    · exact fun _ z => c z.1
    · exact fun _ => rfl
theorem ksp_at (i : Nat) (hi : i < 7) : ksp (nI i) = i := by
  have key : ∀ i : Fin 7, ksp (nI i.1) = i.1 := by decide +kernel
  exact key ⟨i, hi⟩
theorem wordHere_at (h : TXT n tx lets text) {b f : Nat} (hbf : b ≤ f) (hf : f ≤ n) : (∃ i, i < 7 ∧ Mt tx i b (f - b) ∧ (∀ j, j < i → ¬ Mt tx j b (f - b)) ∧ f_X1_wordHere (nI b) (nI f) lets = nI i) ∨ ((∀ j, j < 7 → ¬ Mt tx j b (f - b)) ∧ f_X1_wordHere (nI b) (nI f) lets = -1) := by
  have key : ∀ k i, i + k = 7 → (∀ j, j < i → ¬ Mt tx j b (f - b)) → ((∃ q, q < 7 ∧ Mt tx q b (f - b) ∧ (∀ j, j < q → ¬ Mt tx j b (f - b)) ∧ lo_X1_wordHere_2 (nI b) (nI f) lets k i = nI q) ∨ ((∀ j, j < 7 → ¬ Mt tx j b (f - b)) ∧ lo_X1_wordHere_2 (nI b) (nI f) lets k i = -1)) := by
    intro k
    induction k with
    | zero =>
      intro i hik hno
      exact Or.inr ⟨fun j hj => hno j (by omega), rfl⟩
    | succ k ih =>
      intro i hik hno
      show ((∃ q, q < 7 ∧ Mt tx q b (f - b) ∧ (∀ j, j < q → ¬ Mt tx j b (f - b)) ∧ (if f_X1_isHere (nI b) (nI f) lets (ksp (nI i)) = 0 then lo_X1_wordHere_2 (nI b) (nI f) lets k (i + 1) else nI i) = nI q) ∨ ((∀ j, j < 7 → ¬ Mt tx j b (f - b)) ∧ (if f_X1_isHere (nI b) (nI f) lets (ksp (nI i)) = 0 then lo_X1_wordHere_2 (nI b) (nI f) lets k (i + 1) else nI i) = -1))
      rw [ksp_at i (by omega)]
      by_cases c : f_X1_isHere (nI b) (nI f) lets i = 0
      · have hm := (isHere_at h hbf hf (show i < 7 by omega)).mp c
        rw [if_pos c]
        refine ih (i + 1) (by omega) (fun j hj => ?_)
        by_cases e : j = i
        · subst e; exact hm
        · exact hno j (by omega)
      · rw [if_neg c]
        have hm : Mt tx i b (f - b) := Classical.byContradiction (fun z => c ((isHere_at h hbf hf (show i < 7 by omega)).mpr z))
        exact Or.inl ⟨i, by omega, hm, hno, rfl⟩
  exact key 7 0 (by omega) (fun j hj => absurd hj (by omega))
end WX
