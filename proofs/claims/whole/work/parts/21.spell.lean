/-- a static method that answers the string of a place -/
def CR (l : Launch) (D : va_G) (tys : List (ClassId × FieldType)) (E : kE) (y : MethodName) (ws : List Cond) (rm : Room) (av : List Value) (ra : Nat) : Prop :=
  ∀ sz : Nat, Met l y ws rm (va_Pc av (kPc D tys E [] sz)) (va_Qr (fun (_ : Unit) => True) (fun _ a _ => a = ra) (va_A [] sz)) 0 0 (va_A [] sz)
section KR
variable {p : Program} {l : Launch} {e : Env} {R : Room} {s : State} {m : MethodId} {args : Array Value} {below : List Frame} {meth : Method} {c : Code} {H : Heap} {locs : List Loc} {Q : State → Prop}
variable {D : va_G} {tys : List (ClassId × FieldType)} {E0 E : kE} {A0 : Nat → Prop} {W0 : va_W} {cc bytes : ByteArray} {nL n index maxL pc ra : Nat} {own C : String} {y : MethodName} {ret : Option FieldType} {ws Ts : List Cond} {rm : Room} {As rest st : List Value} {ls : Array Slot}
theorem ksr (S : CallFix p m c cc nL s args Ts own) (hP : va_P D vwCl W0 H) (hK : va_K D vwCl tys s) (hD : va_D A0 W0) (hS : va_S A0 s.heap H locs) (hA : ∀ q : Nat, s.heap.size ≤ q → A0 q) (hE : E0 A0 s)
    (hC : CR l D tys E y ws rm As ra) (cw : CallB R s args own index y bytes maxL ret ws rm 0 0 n ∧ (Cond.static y).before args s = true) (bl : kBl E) (ok : kOk E0 E)
    (hn : As.length = n) (hsize : ls.size = nL) (hst : st = As.reverse ++ rest) (hW : (rest.map fun v => v.category).sum ≤ 8) (hdg : decode cc pc = .ok (.invokestatic index, 3))
    (kk : ∀ (H1 : Heap) (locs1 : List Loc), va_P D vwCl W0 H1 → va_D A0 W0 → va_S A0 s.heap H1 locs1 → W p l e R s m args below meth c H1 locs1 0 0 Q (F0 m (pc + 3) ls (.ref ra :: rest))) : W p l e R s m args below meth c H locs 0 0 Q (F0 m pc ls st) := by
  obtain ⟨hx, hb, hml, hown, hts⟩ := S
  have hPc : va_P D vwCl [] H := fun k q h => by simp at h
  have hDc : va_D A0 [] := ⟨fun i j p q h => by simp at h, fun k q h => by simp at h⟩
  have hF : ∀ q, va_A [] H.size q → A0 q := va_free hD hS hA [] rfl
  refine va_callr (va_runS (As := As) (rest := rest) ⟨hx, hb, hml, hown, hts⟩ (hC H.size) cw ⟨kblind bl, fun U hU hW => ⟨rfl, kpre hS.1 hPc hK hDc hS hF hE ok U hU hW⟩⟩ rfl hn hsize hst (lv_room hW) hdg ⟨Nat.zero_le _, Nat.zero_le _⟩) hS (fun q _ h => hF q h) hF (fun u ra1 t H1 locs1 ht hvm hw hB hz1 hk1 hS1 => ?_)
  subst hB
  exact kk H1 locs1 (kgo (tys := tys) (A0 := A0) (s := s) hP hk1) hD hS1
end KR
/-- which string spells a word -/
def ksp (word : Int32) : Nat := if word = 0 then 0 else if word = 1 then 1 else if word = 2 then 2 else if word = 3 then 3 else if word = 4 then 4 else if word = 5 then 5 else 6
theorem ksp_lt (word : Int32) : ksp word < 7 := by
  unfold ksp
  (repeat' split) <;> decide
abbrev rm_X1_spelling : Room := { frames := 0, cells := 0, slots := 0, locals := 0 }
set_option maxRecDepth 100000 in
set_option maxHeartbeats 4000000 in
theorem k_X1_spelling (l : Launch) (D : va_G) (cI cZ : ClassId) (adK adV : Nat → Nat) (word : Int32) : CR l D (kTy cI cZ) (kG adK adV) yX1_spelling (.code yX1_spelling cX1_spelling 1 (some (.object "java/lang/String")) :: wsL_law) rm_X1_spelling [.int word] (adK (ksp word)) := by
  intro sz
  refine Met.ofW (cc := cX1_spelling) (maxL := 1) (ret := some (.object "java/lang/String")) (by decide) rfl ?_
  intro p e s m args below meth c s₁ B hml hv
  obtain ⟨rfl, hsz0, hP, hK, hD0, hE⟩ := hv
  subst hsz0
  have hx := B.exec
  have hb := B.bytes
  have hr := B.returns
  have hown : s.vm.findClass RX1 = some m.cls := findClass_of_methodNamed B.named
  have hS : va_S (va_A [] s.heap.size) s.heap s.heap [] := va_S.rf
  have hl := lv_entry ([.int word]) (n := 1) (Nat.le_of_ble_eq_true rfl)
  rw [lg_entry_eq]
  generalize (lg_sl ([.int word]) ++ List.replicate (1 - (lg_sl ([.int word])).length) Slot.unset).toArray = ls at hl ⊢
  have hl : lv_has ls 1 [(0, .int word)] := hl
  have hlocks := B.notSynchronized
  have fin : ∀ (pc : Nat) (a : Nat), a = adK (ksp word) → decode cX1_spelling pc = .ok (.areturn, 1) → W p l e (headSpec (.code yX1_spelling cX1_spelling 1 (some (.object "java/lang/String")) :: wsL_law) rm_X1_spelling).room s m (#[Value.int word]) below meth c s.heap [] 0 0 (MQ below (va_Qr (fun (_ : Unit) => True) (fun _ a _ => a = adK (ksp word)) (va_A [] s.heap.size)) (#[Value.int word]) s 0 0 (va_A [] s.heap.size)) (F0 m pc ls [.ref a]) := by
    intro pc a ha hd
    exact W.aret hx hb hr (Or.inl ⟨_, rfl⟩) (Or.inr ⟨_, rfl⟩) (fun t ht hW => ⟨⟨(), a, rfl, trivial, ha⟩, hS.F ht⟩) hS.2.2 hd
  refine lv_iload_n hx hb dX1_spelling_0 rfl (lv_at hl 0 rfl) ?_
  by_cases c0 : word = 0
  · refine lv_tableIn (off := 39) (tgt := 40) hx hb dX1_spelling_1 (by rw [c0]; decide) (by rw [c0]; decide) (by rw [c0]; rfl) (by decide) ?_
    refine va_ldcS hx hb hown (hE.2.2.1 0 (by decide)) dX1_spelling_40 ?_
    exact fin _ _ (by rw [show ksp word = 0 from by unfold ksp; rw [if_pos c0]]) dX1_spelling_42
  by_cases c1 : word = 1
  · refine lv_tableIn (off := 42) (tgt := 43) hx hb dX1_spelling_1 (by rw [c1]; decide) (by rw [c1]; decide) (by rw [c1]; rfl) (by decide) ?_
    refine va_ldcS hx hb hown (hE.2.2.1 1 (by decide)) dX1_spelling_43 ?_
    exact fin _ _ (by rw [show ksp word = 1 from by unfold ksp; rw [if_neg c0, if_pos c1]]) dX1_spelling_45
  by_cases c2 : word = 2
  · refine lv_tableIn (off := 45) (tgt := 46) hx hb dX1_spelling_1 (by rw [c2]; decide) (by rw [c2]; decide) (by rw [c2]; rfl) (by decide) ?_
    refine va_ldcS hx hb hown (hE.2.2.1 2 (by decide)) dX1_spelling_46 ?_
    exact fin _ _ (by rw [show ksp word = 2 from by unfold ksp; rw [if_neg c0, if_neg c1, if_pos c2]]) dX1_spelling_48
  by_cases c3 : word = 3
  · refine lv_tableIn (off := 48) (tgt := 49) hx hb dX1_spelling_1 (by rw [c3]; decide) (by rw [c3]; decide) (by rw [c3]; rfl) (by decide) ?_
    refine va_ldcS hx hb hown (hE.2.2.1 3 (by decide)) dX1_spelling_49 ?_
    exact fin _ _ (by rw [show ksp word = 3 from by unfold ksp; rw [if_neg c0, if_neg c1, if_neg c2, if_pos c3]]) dX1_spelling_51
  by_cases c4 : word = 4
  · refine lv_tableIn (off := 51) (tgt := 52) hx hb dX1_spelling_1 (by rw [c4]; decide) (by rw [c4]; decide) (by rw [c4]; rfl) (by decide) ?_
    refine va_ldcS hx hb hown (hE.2.2.1 4 (by decide)) dX1_spelling_52 ?_
    exact fin _ _ (by rw [show ksp word = 4 from by unfold ksp; rw [if_neg c0, if_neg c1, if_neg c2, if_neg c3, if_pos c4]]) dX1_spelling_54
  by_cases c5 : word = 5
  · refine lv_tableIn (off := 54) (tgt := 55) hx hb dX1_spelling_1 (by rw [c5]; decide) (by rw [c5]; decide) (by rw [c5]; rfl) (by decide) ?_
    refine va_ldcS hx hb hown (hE.2.2.1 5 (by decide)) dX1_spelling_55 ?_
    exact fin _ _ (by rw [show ksp word = 5 from by unfold ksp; rw [if_neg c0, if_neg c1, if_neg c2, if_neg c3, if_neg c4, if_pos c5]]) dX1_spelling_57
  have htab : word.toInt < 0 ∨ 5 < word.toInt := by
    have a0 : word.toInt ≠ 0 := kneI c0
    have a1 : word.toInt ≠ 1 := kneI c1
    have a2 : word.toInt ≠ 2 := kneI c2
    have a3 : word.toInt ≠ 3 := kneI c3
    have a4 : word.toInt ≠ 4 := kneI c4
    have a5 : word.toInt ≠ 5 := kneI c5
    omega
  refine lv_tableOut (tgt := 58) hx hb dX1_spelling_1 htab (by decide) ?_
  refine va_ldcS hx hb hown (hE.2.2.1 6 (by decide)) dX1_spelling_58 ?_
  exact fin _ _ (by rw [show ksp word = 6 from by unfold ksp; rw [if_neg c0, if_neg c1, if_neg c2, if_neg c3, if_neg c4, if_neg c5]]) dX1_spelling_60
theorem kmu {b l : Int32} {k : Nat} (h : (l.toInt - b.toInt).toNat < k + 1) (c : ¬ l ≤ b) : (l.toInt - (b + 1).toInt).toNat < k := by
  rw [Int32.le_iff_toInt_le] at c
  have h1 := Int32.toInt_lt l
  have h2 := Int32.le_toInt b
  rw [Int32.toInt_add, show (1 : Int32).toInt = 1 from rfl, Int.bmod_eq_of_le (by omega) (by omega)]
  omega
theorem knb {x : Int32} (h : x = 0 ∨ x = 1) : narrow .boolean (.int x) = .int x := by
  rcases h with rfl | rfl <;> rfl
theorem kpf {α β : Type} {a : α} {b : β} {z : α × β} (h : z = (a, b)) : z.1 = a := by rw [h]
theorem kps {α β : Type} {a : α} {b : β} {z : α × β} (h : z = (a, b)) : z.2 = b := by rw [h]
