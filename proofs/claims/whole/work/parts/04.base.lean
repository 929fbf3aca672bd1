/-! what a method's contract asks and answers, where it makes nothing: cells in, cells out, an answer -/
abbrev kE : Type := (Nat → Prop) → State → Prop
def kT : kE := fun _ _ => True
/-- a demand on the surroundings that frames don't touch -/
def kBl (E : kE) : Prop := ∀ (A : Nat → Prop) (u U : State), u.vm = U.vm → u.heap = U.heap → E A u → E A U
/-- what a caller has gives what the callee asks -/
def kOk (E0 E : kE) : Prop := ∀ (A0 A : Nat → Prop) (s U : State), E0 A0 s → s.heap.size ≤ U.heap.size → (∀ q : Nat, q < s.heap.size → ¬ A0 q → U.heap[q]? = s.heap[q]?) → (∀ q, A q → A0 q) → s.WarmedH U.vm → E A U
theorem kBl_T : kBl kT := fun _ _ _ _ _ _ => trivial
theorem kOk_T {E0 : kE} : kOk E0 kT := fun _ _ _ _ _ _ _ _ _ => trivial
def kPc (D : va_G) (tys : List (ClassId × FieldType)) (E : kE) (w : va_W) (sz : Nat) : State → Prop := fun U => U.heap.size = sz ∧ va_P D vwCl w U.heap ∧ va_K D vwCl tys U ∧ va_D (fun _ => True) w ∧ E (va_A w sz) U
def CI (l : Launch) (D : va_G) (tys : List (ClassId × FieldType)) (E : kE) (y : MethodName) (ws : List Cond) (rm : Room) (av : List Value) (w w' : va_W) (r : Int32) : Prop :=
  ∀ sz : Nat, Met l y ws rm (va_Pc av (kPc D tys E w sz)) (va_Qi (fun (r' : Int32) (_ : Unit) => r' = r) (fun _ t => va_P D vwCl w' t.heap) (va_A w sz)) 0 0 (va_A w sz)
def CV (l : Launch) (D : va_G) (tys : List (ClassId × FieldType)) (E : kE) (y : MethodName) (ws : List Cond) (rm : Room) (av : List Value) (w w' : va_W) : Prop :=
  ∀ sz : Nat, Met l y ws rm (va_Pc av (kPc D tys E w sz)) (va_Qv (fun (_ : Unit) => True) (fun _ t => va_P D vwCl w' t.heap) (va_A w sz)) 0 0 (va_A w sz)
theorem CI.of {l : Launch} {D : va_G} {tys : List (ClassId × FieldType)} {E : kE} {y : MethodName} {ws ws' : List Cond} {rm : Room} {av : List Value} {w w' : va_W} {r : Int32} {cc : ByteArray} {maxL : Nat} {ty : FieldType}
    (hy : plainName y.cls = true) (hw : ws = Cond.code y cc maxL (some ty) :: ws') (hz : (lg_sl av).length ≤ maxL) (hn : narrow ty (.int r) = .int r)
    (body : ∀ (p : Program) (e : Env) (s : State) (m : MethodId) (args : Array Value) (below : List Frame) (meth : Method) (c : Code) (A : Nat → Prop) (Q : State → Prop) (ls : Array Slot), p.tables.exec = Jvm.exec → c.code = cc → c.maxLocals = maxL → (∀ w ∈ ws, w.before args s = true) → s.vm.findClass y.cls = some m.cls → (∀ q : Nat, s.heap.size ≤ q → A q) → va_P D vwCl w s.heap → va_K D vwCl tys s → va_D A w → E A s → lv_has ls maxL (lv_args 0 av) →
      (∀ (H : Heap) (locs : List Loc) (ls : Array Slot) (pc : Nat), va_P D vwCl w' H → va_S A s.heap H locs → decode cc pc = .ok (.ireturn, 1) → W p l e rm s m args below meth c H locs 0 0 Q (F0 m pc ls [.int r])) →
      W p l e rm s m args below meth c s.heap [] 0 0 Q (F0 m 0 ls [])) : CI l D tys E y ws rm av w w' r := by
  intro sz
  refine Met.ofW (cc := cc) (maxL := maxL) (ret := some ty) hy hw ?_
  intro p e s m args below meth c s₁ B hml hv
  obtain ⟨rfl, hsz0, hP, hK, hD0, hE⟩ := hv
  subst hsz0
  rw [lg_entry_eq]
  refine body p e s m av.toArray below meth c (va_A w s.heap.size) _ _ B.exec B.bytes hml (atoms_spec (ws := ws) B.pre) (findClass_of_methodNamed B.named) (fun q h => Or.inr h) hP hK hD0.self hE (lv_entry av hz) ?_
  intro H locs ls pc hP' hS hdg
  exact W.zret B.exec B.bytes B.returns hn (fun t ht hW => ⟨⟨r, (), rfl, rfl, by show va_P D vwCl w' t.heap; rw [ht]; exact hP'⟩, hS.F ht⟩) hS.2.2 hdg
theorem CV.of {l : Launch} {D : va_G} {tys : List (ClassId × FieldType)} {E : kE} {y : MethodName} {ws ws' : List Cond} {rm : Room} {av : List Value} {w w' : va_W} {cc : ByteArray} {maxL : Nat}
    (hy : plainName y.cls = true) (hw : ws = Cond.code y cc maxL none :: ws') (hz : (lg_sl av).length ≤ maxL)
    (body : ∀ (p : Program) (e : Env) (s : State) (m : MethodId) (args : Array Value) (below : List Frame) (meth : Method) (c : Code) (A : Nat → Prop) (Q : State → Prop) (ls : Array Slot), p.tables.exec = Jvm.exec → c.code = cc → c.maxLocals = maxL → (∀ w ∈ ws, w.before args s = true) → s.vm.findClass y.cls = some m.cls → (∀ q : Nat, s.heap.size ≤ q → A q) → va_P D vwCl w s.heap → va_K D vwCl tys s → va_D A w → E A s → lv_has ls maxL (lv_args 0 av) →
      (∀ (H : Heap) (locs : List Loc) (ls : Array Slot) (pc : Nat), va_P D vwCl w' H → va_S A s.heap H locs → decode cc pc = .ok (.return_, 1) → W p l e rm s m args below meth c H locs 0 0 Q (F0 m pc ls [])) →
      W p l e rm s m args below meth c s.heap [] 0 0 Q (F0 m 0 ls [])) : CV l D tys E y ws rm av w w' := by
  intro sz
  refine Met.ofW (cc := cc) (maxL := maxL) (ret := none) hy hw ?_
  intro p e s m args below meth c s₁ B hml hv
  obtain ⟨rfl, hsz0, hP, hK, hD0, hE⟩ := hv
  subst hsz0
  rw [lg_entry_eq]
  refine body p e s m av.toArray below meth c (va_A w s.heap.size) _ _ B.exec B.bytes hml (atoms_spec (ws := ws) B.pre) (findClass_of_methodNamed B.named) (fun q h => Or.inr h) hP hK hD0.self hE (lv_entry av hz) ?_
  intro H locs ls pc hP' hS hdg
  exact W.vret B.exec B.bytes B.returns (fun t ht hW => ⟨⟨(), rfl, trivial, by show va_P D vwCl w' t.heap; rw [ht]; exact hP'⟩, hS.F ht⟩) hS.2.2 hdg
/-- how a callee's cells w lie in the caller's W0, and what W1 is behind it -/
def kCut (W0 w w' W1 wr : va_W) (isC isR isN as : List Nat) : Prop :=
  isC.map (fun i => W0[i]?) = w.map some ∧ isR.map (fun i => W0[i]?) = wr.map some ∧ (w.map (·.1) = as ∧ w'.map (·.1) = as) ∧ isN.map (fun i => (wr ++ w')[i]?) = W1.map some
def kNd (isC isR isN : List Nat) : Bool := va_nd isC && (va_nd isR && (va_nd isN && isR.all (fun i => decide (i ∉ isC))))
theorem kfilter {W0 w : va_W} {is : List Nat} (h : is.map (fun i => W0[i]?) = w.map some) : is.filterMap (fun i => W0[i]?) = w := by
  have h1 : is.filterMap (fun i => W0[i]?) = (is.map (fun i => W0[i]?)).filterMap id := by rw [List.filterMap_map]; rfl
  rw [h1, h, List.filterMap_map]
  simp
theorem kD_same {A : Nat → Prop} {w w' : va_W} (h : va_D A w) (e : w'.map (·.1) = w.map (·.1)) : va_D A w' := by
  have key : ∀ (k : Nat) (q : Nat × va_E), w'[k]? = some q → ∃ q0, w[k]? = some q0 ∧ q0.1 = q.1 := by
    intro k q hk
    have h1 : (w'.map (·.1))[k]? = some q.1 := by rw [List.getElem?_map, hk]; rfl
    rw [e, List.getElem?_map] at h1
    cases hw : w[k]? with
    | none => rw [hw] at h1; cases h1
    | some q0 => rw [hw] at h1; exact ⟨q0, rfl, Option.some.inj h1⟩
  refine ⟨fun i j p q hi hj hpq => ?_, fun k q hk => ?_⟩
  · obtain ⟨p0, a1, a2⟩ := key i p hi
    obtain ⟨q0, b1, b2⟩ := key j q hj
    exact h.1 i j p0 q0 a1 b1 (by rw [a2, b2, hpq])
  · obtain ⟨q0, b1, b2⟩ := key k q hk
    rw [← b2]
    exact h.2 k q0 b1
section KC
variable {p : Program} {l : Launch} {e : Env} {R : Room} {s : State} {m : MethodId} {args : Array Value} {below : List Frame} {meth : Method} {c : Code} {H : Heap} {locs : List Loc} {Q : State → Prop}
variable {D : va_G} {tys : List (ClassId × FieldType)} {E0 E : kE} {A0 : Nat → Prop} {W0 W1 w w' wr : va_W} {cc bytes : ByteArray} {nL n index maxL pc ci q0 b : Nat} {own C : String} {y : MethodName} {ret : Option FieldType} {ws Ts : List Cond} {rm : Room} {As rest st : List Value} {ls : Array Slot} {fs : List Value} {k : vw_C} {isC isR isN as : List Nat} {r : Int32}
theorem kpre (hsz : s.heap.size ≤ H.size) (hPc : va_P D vwCl w H) (hK : va_K D vwCl tys s) (hDc : va_D A0 w) (hS : va_S A0 s.heap H locs) (hF : ∀ q, va_A w H.size q → A0 q) (hE : E0 A0 s) (ok : kOk E0 E) (U : State) (hU : U.heap = H) (hW : s.WarmedH U.vm) : kPc D tys E w H.size U :=
  ⟨by rw [hU], by rw [hU]; exact hPc, va_K.moved hW.alike hK, hDc.weaken (fun _ _ _ _ => trivial), ok A0 _ s U hE (by rw [hU]; exact hsz) (fun q h1 h2 => by rw [hU]; exact hS.2.1 q h1 h2) hF hW⟩
theorem kblind {av : List Value} {sz : Nat} (bl : kBl E) : FrameBlind (va_Pc av (kPc D tys E w sz)) := fun a U g mk q => by
  obtain ⟨q0, q1, qP, qK, qD, qE⟩ := q
  exact ⟨q0, q1, qP, va_K.moved (u := U) (U := U.calling g mk a) (Vm.Alike.refl U.vm) qK, qD, bl _ U (U.calling g mk a) rfl rfl qE⟩
/-- behind a call: the caller's world, whole -/
theorem kafter {H1 : Heap} (hP : va_P D vwCl W0 H) (hD : va_D A0 W0) (cut : kCut W0 w w' W1 wr isC isR isN as) (nd : kNd isC isR isN = true) (hk : ∀ q : Nat, q < H.size → ¬ va_A w H.size q → H1[q]? = H[q]?) (hF : ∀ q, va_A w H.size q → A0 q) (hP1 : va_P D vwCl w' H1) (hDc : va_D A0 w) : va_P D vwCl W1 H1 ∧ va_D A0 W1 := by
  simp only [kNd, Bool.and_eq_true, List.all_eq_true, decide_eq_true_eq] at nd
  obtain ⟨c1, c2, c3, c4⟩ := cut
  have hD1 : va_D (va_A w H.size) w' := kD_same hDc.self (c3.2.trans c3.1.symm)
  obtain ⟨hP', hD'⟩ := va_join hP hD isC isR c1 c2 nd.2.1 nd.2.2.2 hk hF hP1 hD1
  exact ⟨hP'.sub isN (kfilter c4), hD'.sub isN nd.2.2.1 c4⟩
/-- a call of a method that answers an int -/
theorem kvi (S : CallFix p m c cc nL s args Ts own) (hP : va_P D vwCl W0 H) (hK : va_K D vwCl tys s) (hD : va_D A0 W0) (hS : va_S A0 s.heap H locs) (hA : ∀ q : Nat, s.heap.size ≤ q → A0 q) (hE : E0 A0 s)
    (hC : CI l D tys E y ws rm (.ref b :: As) w w' r) (cw : CallW R s args own C index y bytes maxL ret ws rm 0 0 n) (bl : kBl E) (ok : kOk E0 E)
    (W1 : va_W) (cut : kCut W0 w w' W1 wr isC isR isN as) (nd : kNd isC isR isN = true) (hc : vwCl[ci]? = some k) (he : w[q0]? = some (b, .inr (ci, fs))) (hkc : k.1 = C)
    (hn : As.length = n) (hsize : ls.size = nL) (hst : st = As.reverse ++ .ref b :: rest) (hW : (rest.map fun v => v.category).sum ≤ 8) (hdg : decode cc pc = .ok (.invokevirtual index, 3))
    (kk : ∀ (H1 : Heap) (locs1 : List Loc), va_P D vwCl W1 H1 → va_D A0 W1 → va_S A0 s.heap H1 locs1 → W p l e R s m args below meth c H1 locs1 0 0 Q (F0 m (pc + 3) ls (.int r :: rest))) : W p l e R s m args below meth c H locs 0 0 Q (F0 m pc ls st) := by
  obtain ⟨hx, hb, hml, hown, hts⟩ := S
  have c1 := cut.1
  have nd' := nd
  simp only [kNd, Bool.and_eq_true] at nd'
  have hPc : va_P D vwCl w H := hP.sub isC (kfilter c1)
  have hDc : va_D A0 w := hD.sub isC nd'.1 c1
  have hF : ∀ q, va_A w H.size q → A0 q := va_free hD hS hA isC c1
  refine va_calli (va_runV (As := As) (rest := rest) ⟨hx, hb, hml, hown, hts⟩ (hC H.size) cw ⟨kblind bl, by rw [← hkc]; exact va_recv hK hPc hc he, fun U hU hW => ⟨rfl, kpre hS.1 hPc hK hDc hS hF hE ok U hU hW⟩⟩ rfl hn hsize hst (lv_room hW) hdg ⟨Nat.zero_le _, Nat.zero_le _⟩) hS (fun q _ h => hF q h) hF (fun r1 u t H1 locs1 ht hvm hw hB hz1 hk1 hS1 => ?_)
  subst hw
  rw [ht] at hB
  obtain ⟨hP', hD'⟩ := kafter hP hD cut nd hk1 hF hB hDc
  exact kk H1 locs1 hP' hD' hS1
/-- a call of a method that answers nothing -/
theorem kvv (S : CallFix p m c cc nL s args Ts own) (hP : va_P D vwCl W0 H) (hK : va_K D vwCl tys s) (hD : va_D A0 W0) (hS : va_S A0 s.heap H locs) (hA : ∀ q : Nat, s.heap.size ≤ q → A0 q) (hE : E0 A0 s)
    (hC : CV l D tys E y ws rm (.ref b :: As) w w') (cw : CallW R s args own C index y bytes maxL ret ws rm 0 0 n) (bl : kBl E) (ok : kOk E0 E)
    (W1 : va_W) (cut : kCut W0 w w' W1 wr isC isR isN as) (nd : kNd isC isR isN = true) (hc : vwCl[ci]? = some k) (he : w[q0]? = some (b, .inr (ci, fs))) (hkc : k.1 = C)
    (hn : As.length = n) (hsize : ls.size = nL) (hst : st = As.reverse ++ .ref b :: rest) (hW : (rest.map fun v => v.category).sum ≤ 8) (hdg : decode cc pc = .ok (.invokevirtual index, 3))
    (kk : ∀ (H1 : Heap) (locs1 : List Loc), va_P D vwCl W1 H1 → va_D A0 W1 → va_S A0 s.heap H1 locs1 → W p l e R s m args below meth c H1 locs1 0 0 Q (F0 m (pc + 3) ls rest)) : W p l e R s m args below meth c H locs 0 0 Q (F0 m pc ls st) := by
  obtain ⟨hx, hb, hml, hown, hts⟩ := S
  have c1 := cut.1
  have nd' := nd
  simp only [kNd, Bool.and_eq_true] at nd'
  have hPc : va_P D vwCl w H := hP.sub isC (kfilter c1)
  have hDc : va_D A0 w := hD.sub isC nd'.1 c1
  have hF : ∀ q, va_A w H.size q → A0 q := va_free hD hS hA isC c1
  refine va_callv (va_runV (As := As) (rest := rest) ⟨hx, hb, hml, hown, hts⟩ (hC H.size) cw ⟨kblind bl, by rw [← hkc]; exact va_recv hK hPc hc he, fun U hU hW => ⟨rfl, kpre hS.1 hPc hK hDc hS hF hE ok U hU hW⟩⟩ rfl hn hsize hst (lv_room hW) hdg ⟨Nat.zero_le _, Nat.zero_le _⟩) hS (fun q _ h => hF q h) hF (fun u t H1 locs1 ht hvm hw hB hz1 hk1 hS1 => ?_)
  rw [ht] at hB
  obtain ⟨hP', hD'⟩ := kafter hP hD cut nd hk1 hF hB hDc
  exact kk H1 locs1 hP' hD' hS1
/-- a call of a static method that touches no cell -/
theorem ksi (S : CallFix p m c cc nL s args Ts own) (hP : va_P D vwCl W0 H) (hK : va_K D vwCl tys s) (hD : va_D A0 W0) (hS : va_S A0 s.heap H locs) (hA : ∀ q : Nat, s.heap.size ≤ q → A0 q) (hE : E0 A0 s)
    (hC : CI l D tys E y ws rm As [] [] r) (cw : CallB R s args own index y bytes maxL ret ws rm 0 0 n ∧ (Cond.static y).before args s = true) (bl : kBl E) (ok : kOk E0 E)
    (hn : As.length = n) (hsize : ls.size = nL) (hst : st = As.reverse ++ rest) (hW : (rest.map fun v => v.category).sum ≤ 8) (hdg : decode cc pc = .ok (.invokestatic index, 3))
    (kk : ∀ (H1 : Heap) (locs1 : List Loc), va_P D vwCl W0 H1 → va_D A0 W0 → va_S A0 s.heap H1 locs1 → W p l e R s m args below meth c H1 locs1 0 0 Q (F0 m (pc + 3) ls (.int r :: rest))) : W p l e R s m args below meth c H locs 0 0 Q (F0 m pc ls st) := by
  obtain ⟨hx, hb, hml, hown, hts⟩ := S
  have hPc : va_P D vwCl [] H := fun k q h => by simp at h
  have hDc : va_D A0 [] := ⟨fun i j p q h => by simp at h, fun k q h => by simp at h⟩
  have hF : ∀ q, va_A [] H.size q → A0 q := va_free hD hS hA [] rfl
  refine va_calli (va_runS (As := As) (rest := rest) ⟨hx, hb, hml, hown, hts⟩ (hC H.size) cw ⟨kblind bl, fun U hU hW => ⟨rfl, kpre hS.1 hPc hK hDc hS hF hE ok U hU hW⟩⟩ rfl hn hsize hst (lv_room hW) hdg ⟨Nat.zero_le _, Nat.zero_le _⟩) hS (fun q _ h => hF q h) hF (fun r1 u t H1 locs1 ht hvm hw hB hz1 hk1 hS1 => ?_)
  subst hw
  exact kk H1 locs1 (hP.kept (fun k q hq => hk1 q.1 ((hP k q hq).lt) (fun h => by
    rcases h with ⟨k2, e2, h⟩ | h
    · simp at h
    · exact absurd ((hP k q hq).lt) (by omega)))) hD hS1
/-- the same, of a nest mate -/
theorem kni {host : String} (S : CallFix p m c cc nL s args Ts own) (hP : va_P D vwCl W0 H) (hK : va_K D vwCl tys s) (hD : va_D A0 W0) (hS : va_S A0 s.heap H locs) (hA : ∀ q : Nat, s.heap.size ≤ q → A0 q) (hE : E0 A0 s)
    (hC : CI l D tys E y ws rm As [] [] r) (cw : va_CN R s args own index y host bytes maxL ret ws rm 0 0 n ∧ (Cond.static y).before args s = true ∧ True) (bl : kBl E) (ok : kOk E0 E)
    (hn : As.length = n) (hsize : ls.size = nL) (hst : st = As.reverse ++ rest) (hW : (rest.map fun v => v.category).sum ≤ 8) (hdg : decode cc pc = .ok (.invokestatic index, 3))
    (kk : ∀ (H1 : Heap) (locs1 : List Loc), va_P D vwCl W0 H1 → va_D A0 W0 → va_S A0 s.heap H1 locs1 → W p l e R s m args below meth c H1 locs1 0 0 Q (F0 m (pc + 3) ls (.int r :: rest))) : W p l e R s m args below meth c H locs 0 0 Q (F0 m pc ls st) := by
  obtain ⟨hx, hb, hml, hown, hts⟩ := S
  have hPc : va_P D vwCl [] H := fun k q h => by simp at h
  have hDc : va_D A0 [] := ⟨fun i j p q h => by simp at h, fun k q h => by simp at h⟩
  have hF : ∀ q, va_A [] H.size q → A0 q := va_free hD hS hA [] rfl
  refine va_calli (va_runSN (As := As) (rest := rest) ⟨hx, hb, hml, hown, hts⟩ (hC H.size) cw ⟨kblind bl, fun U hU hW => ⟨rfl, kpre hS.1 hPc hK hDc hS hF hE ok U hU hW⟩⟩ rfl hn hsize hst (lv_room hW) hdg ⟨Nat.zero_le _, Nat.zero_le _⟩) hS (fun q _ h => hF q h) hF (fun r1 u t H1 locs1 ht hvm hw hB hz1 hk1 hS1 => ?_)
  subst hw
  exact kk H1 locs1 (hP.kept (fun k q hq => hk1 q.1 ((hP k q hq).lt) (fun h => by
    rcases h with ⟨k2, e2, h⟩ | h
    · simp at h
    · exact absurd ((hP k q hq).lt) (by omega)))) hD hS1
end KC
/-! numbers -/
theorem kle_clamp (x : Int32) : x ≤ nI x.toNatClampNeg := by
  rw [Int32.le_iff_toInt_le]
  have h : x.toNatClampNeg < 2 ^ 31 := by
    have := Int32.toInt_lt x
    show x.toInt.toNat < 2 ^ 31
    omega
  rw [nI_toInt h]
  show x.toInt ≤ ((x.toInt.toNat : Nat) : Int)
  omega
theorem klt_clamp {x : Int32} {i : Nat} (h : i < x.toNatClampNeg) : ¬ x ≤ nI i := by
  rw [Int32.le_iff_toInt_le]
  have h1 := Int32.toInt_lt x
  have h2 : i < x.toInt.toNat := h
  rw [nI_toInt (by omega)]
  omega
/-- a number between bounds -/
def kb (x : Int32) (lo hi : Nat) : Prop := ∃ a : Nat, lo ≤ a ∧ a < hi ∧ x = nI a
theorem kb.lit (a : Nat) : kb (nI a) a (a + 1) := ⟨a, Nat.le_refl _, Nat.lt_succ_self _, rfl⟩
theorem kb.add {x y : Int32} {l1 h1 l2 h2 : Nat} (hx : kb x l1 h1) (hy : kb y l2 h2) : kb (x + y) (l1 + l2) (h1 + h2 - 1) := by
  obtain ⟨a, a1, a2, rfl⟩ := hx
  obtain ⟨b, b1, b2, rfl⟩ := hy
  exact ⟨a + b, by omega, by omega, nI_add a b⟩
theorem kb.mul {x y : Int32} {l1 h1 c : Nat} (hx : x = nI c) (hy : kb y l1 h1) : kb (x * y) (c * l1) (c * (h1 - 1) + 1) := by
  subst hx
  obtain ⟨b, b1, b2, rfl⟩ := hy
  refine ⟨c * b, Nat.mul_le_mul_left c b1, ?_, ?_⟩
  · have : c * b ≤ c * (h1 - 1) := Nat.mul_le_mul_left c (by omega)
    omega
  · show Int32.ofNat c * Int32.ofNat b = Int32.ofNat (c * b)
    exact (Int32.ofNat_mul c b).symm
theorem kb.in {x : Int32} {lo hi n : Nat} (h : kb x lo hi) (hn : hi ≤ n) (hs : n < 2147483648) : vp_in x n := by
  obtain ⟨a, a1, a2, rfl⟩ := h
  exact vp_in_nI (by omega) hs
theorem kb.wide {x : Int32} {l1 h1 l2 h2 : Nat} (h : kb x l1 h1) (hl : l2 ≤ l1) (hh : h1 ≤ h2) : kb x l2 h2 := by
  obtain ⟨a, a1, a2, rfl⟩ := h
  exact ⟨a, by omega, by omega, rfl⟩
theorem kb.of_in {x : Int32} {n : Nat} (h : vp_in x n) (hn : n < 2147483648) : kb x 0 n := by
  obtain ⟨j, h1, h2⟩ := vp_in_of h hn
  exact ⟨j, Nat.zero_le _, h1, h2⟩
/-- n steps -/
def lp {α : Type} (f : Nat → α → α) (a : α) : Nat → α
  | 0 => a
  | n + 1 => f n (lp f a n)
