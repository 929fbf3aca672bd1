/-! a constructor's contract: cells in, cells out with fresh ones among them, what is made counted -/
def CN {α : Type} (l : Launch) (D : va_G) (tys : List (ClassId × FieldType)) (E : kE) (y : MethodName) (ws : List Cond) (rm : Room) (av : List Value) (w : va_W) (mk : α → va_W) (nc ns : Nat) : Prop :=
  ∀ sz : Nat, Met l y ws rm (va_Pc av (kPc D tys E w sz)) (va_Qv (fun (_ : α) => True) (fun a t => va_P D vwCl (mk a) t.heap ∧ va_D (va_A w sz) (mk a)) (va_A w sz)) nc ns (va_A w sz)
theorem CN.of {α : Type} {l : Launch} {D : va_G} {tys : List (ClassId × FieldType)} {E : kE} {y : MethodName} {ws ws' : List Cond} {rm : Room} {av : List Value} {w : va_W} {mk : α → va_W} {nc ns : Nat} {cc : ByteArray} {maxL : Nat}
    (hy : plainName y.cls = true) (hw : ws = Cond.code y cc maxL none :: ws') (hz : (lg_sl av).length ≤ maxL)
    (body : ∀ (p : Program) (e : Env) (s : State) (m : MethodId) (args : Array Value) (below : List Frame) (meth : Method) (c : Code) (A : Nat → Prop) (Q : State → Prop) (ls : Array Slot), p.tables.exec = Jvm.exec → c.code = cc → c.maxLocals = maxL → (∀ w ∈ ws, w.before args s = true) → s.vm.findClass y.cls = some m.cls → meth.name = y.name → (∀ q : Nat, s.heap.size ≤ q → A q) → va_P D vwCl w s.heap → va_K D vwCl tys s → va_D A w → E A s → lv_has ls maxL (lv_args 0 av) →
      (∀ (a : α) (H : Heap) (locs : List Loc) (ls : Array Slot) (pc : Nat), va_P D vwCl (mk a) H → va_D A (mk a) → va_S A s.heap H locs → decode cc pc = .ok (.return_, 1) → W p l e rm s m args below meth c H locs nc ns Q (F0 m pc ls [])) →
      W p l e rm s m args below meth c s.heap [] 0 0 Q (F0 m 0 ls [])) : CN l D tys E y ws rm av w mk nc ns := by
  intro sz
  refine Met.ofW (cc := cc) (maxL := maxL) (ret := none) hy hw ?_
  intro p e s m args below meth c s₁ B hml hv
  obtain ⟨rfl, hsz0, hP, hK, hD0, hE⟩ := hv
  subst hsz0
  rw [lg_entry_eq]
  refine body p e s m av.toArray below meth c (va_A w s.heap.size) _ _ B.exec B.bytes hml (atoms_spec (ws := ws) B.pre) (findClass_of_methodNamed B.named) (name_of_methodNamed B.named B.method).1 (fun q h => Or.inr h) hP hK hD0.self hE (lv_entry av hz) ?_
  intro a H locs ls pc hP' hD' hS hdg
  exact W.vret B.exec B.bytes B.returns (fun t ht hW => ⟨⟨a, rfl, trivial, by rw [ht]; exact hP', hD'⟩, hS.F ht⟩) hS.2.2 hdg
abbrev rm_X0_init (n : Nat) : Room := { frames := 2, cells := 1, slots := n, locals := 32 }
set_option maxRecDepth 100000 in
set_option maxHeartbeats 4000000 in
theorem k_X0_init (l : Launch) (D : va_G) (cI cZ : ClassId) (adK adV : Nat → Nat) (h n : Nat) (x : Int32) (h0 : ¬ x < 0) (hm : (if 0 < x then x else 0) = x) (hn : x.toNatClampNeg = n) (hb4 : n * componentBytes .int ≤ 536870912) : CN l D (kTy cI cZ) (kG adK adV) yX0_init (.code yX0_init cX0_init 2 none :: wsL_law) (rm_X0_init n) [.ref h, .int x] [(h, .inr (0, [.null]))] (fun a : Nat => wR cI h a n (fun _ => 0)) 1 n := by
  refine CN.of (cc := cX0_init) (maxL := 2) (by decide) rfl (Nat.le_of_ble_eq_true rfl) ?_
  intro p e s m args below meth c A Q ls hx hb hml hts0 hown hin hA hP hK hD hE hl hret
  have hts : ∀ w ∈ wsL_law, w.before args s = true := fun w h => hts0 w (List.mem_cons_of_mem _ h)
  clear hts0
  have hown : s.vm.findClass RX0 = some m.cls := hown
  have hl : lv_has ls 2 [(0, .ref h), (1, .int x)] := hl
  have hS : va_S A s.heap s.heap [] := va_S.rf
  revert hP hS
  suffices hgo : ∀ (H : Heap) (locs : List Loc), va_P D vwCl [(h, .inr (0, [.null]))] H → va_S A s.heap H locs → W p l e (rm_X0_init n) s m args below meth c H locs 0 0 Q (F0 m 0 ls []) from fun a b => hgo _ _ a b
  intro H locs hP hS
  refine lv_aload_n hx hb dX0_init_0 rfl (lv_at hl 0 rfl) ?_
  refine W.objInit hx hb hown (kw hts kin_3 1 rfl) (kw hts kin_1 10 rfl) (kw hts kin_1 11 rfl) rfl (by rw [hml]; exact hl.1) rfl dX0_init_1 (Nat.le_of_ble_eq_true rfl) (Nat.le_of_ble_eq_true rfl) ?_
  refine W.eq (g2 := F0 m 4 ls []) rfl ?_
  refine lv_aload_n hx hb dX0_init_4 rfl (lv_at hl 0 rfl) ?_
  refine lv_iconst (v := 0) hx hb dX0_init_5 (by decide) ?_
  refine lv_iload_n hx hb dX0_init_6 rfl (lv_at hl 1 rfl) ?_
  refine va_mmax hx hb (hml.trans hl.1.symm) hown (kw hts kin_3 2 rfl) (kw hts kin_3 3 rfl) (kw hts kin_3 4 rfl) (kw hts kin_3 5 rfl) (Nat.le_of_ble_eq_true rfl) (Nat.le_of_ble_eq_true rfl) (Nat.zero_le _) (Nat.zero_le _) dX0_init_7 ?_
  rw [hm]
  refine va_newa (a0 := (n, .inl fun _ => (0 : Int32))) hx hb (kw hts kin_3 6 rfl) (ty := .int) rfl hK hP hD hS hA (fun cA => rfl) h0 hn hb4 (Nat.le_of_ble_eq_true rfl) (Nat.le_of_eq (Nat.zero_add n)) dX0_init_10 (fun q cA H hK2 hP hD hS => ?_)
  obtain rfl : cA = cI := Option.some.inj ((hK2.2 2 _ rfl).2.symm.trans (hK2.2 0 _ rfl).2)
  have hP : va_P D vwCl [(h, .inr (0, [.null])), (q, .inl (cA, n, .inl fun _ => (0 : Int32)))] H := hP
  have hD : va_D A [(h, .inr (0, [.null])), (q, .inl (cA, n, .inl fun _ => (0 : Int32)))] := hD
  refine W.widen (k := 1) (n := n) (Nat.le_refl 1) (Nat.le_of_eq (Nat.zero_add n)) ?_
  refine va_putF (D := D) (ci := 0) (v := .ref q) (ty := .array .int) (C := RX0) (T := TX0) (N := 1) hx hb hts inlX0 tyX0 tyX0_ok nmX0 hown hK hP hD hS 0 rfl rfl 0 (by decide) (kw hts kin_3 7 rfl) (fun _ h9 => h9) rfl hin rfl (by decide +kernel) rfl rfl (Nat.le_of_ble_eq_true rfl) dX0_init_12 (fun H locs hP hD hS => ?_)
  exact hret q H _ ls 15 hP hD hS dX0_init_15
section KN
variable {p : Program} {l : Launch} {e : Env} {R : Room} {s : State} {m : MethodId} {args : Array Value} {below : List Frame} {meth : Method} {c : Code} {H : Heap} {locs : List Loc} {Q : State → Prop}
variable {D : va_G} {tys : List (ClassId × FieldType)} {E0 E : kE} {A0 : Nat → Prop} {W0 w wr : va_W} {cc bytes : ByteArray} {nL n index maxL pc b mc ms cells slots : Nat} {own : String} {y : MethodName} {ws Ts : List Cond} {rm : Room} {As rest st : List Value} {ls : Array Slot} {isC isR : List Nat} {α : Type} {mk : α → va_W}
/-- a call of a constructor: the caller's other cells, and behind them what it made -/
theorem kvc (S : CallFix p m c cc nL s args Ts own) (hP : va_P D vwCl W0 H) (hK : va_K D vwCl tys s) (hD : va_D A0 W0) (hS : va_S A0 s.heap H locs) (hA : ∀ q : Nat, s.heap.size ≤ q → A0 q) (hE : E0 A0 s)
    (hC : CN l D tys E y ws rm (.ref b :: As) w mk mc ms) (cw : CallB R s args own index y bytes maxL none ws rm mc ms n ∧ y.name = "<init>" ∧ (Cond.instanceMethod y).before args s = true) (bl : kBl E) (ok : kOk E0 E)
    (c1 : isC.map (fun i => W0[i]?) = w.map some) (c2 : isR.map (fun i => W0[i]?) = wr.map some) (nd : (va_nd isC && (va_nd isR && isR.all (fun i => decide (i ∉ isC)))) = true)
    (hn : As.length = n) (hsize : ls.size = nL) (hst : st = As.reverse ++ .ref b :: rest) (hW : (rest.map fun v => v.category).sum ≤ 8) (hdg : decode cc pc = .ok (.invokespecial index, 3)) (hf : cells + mc ≤ R.cells ∧ slots + ms ≤ R.slots)
    (kk : ∀ (a : α) (H1 : Heap) (locs1 : List Loc), va_P D vwCl (wr ++ mk a) H1 → va_D A0 (wr ++ mk a) → va_S A0 s.heap H1 locs1 → W p l e R s m args below meth c H1 locs1 (cells + mc) (slots + ms) Q (F0 m (pc + 3) ls rest)) : W p l e R s m args below meth c H locs cells slots Q (F0 m pc ls st) := by
  obtain ⟨hx, hb, hml, hown, hts⟩ := S
  simp only [Bool.and_eq_true, List.all_eq_true, decide_eq_true_eq] at nd
  have hPc : va_P D vwCl w H := hP.sub isC (kfilter c1)
  have hDc : va_D A0 w := hD.sub isC nd.1 c1
  have hF : ∀ q, va_A w H.size q → A0 q := va_free hD hS hA isC c1
  refine va_callv (va_runI (As := As) (rest := rest) ⟨hx, hb, hml, hown, hts⟩ (hC H.size) cw ⟨kblind bl, fun U hU hW => ⟨rfl, kpre hS.1 hPc hK hDc hS hF hE ok U hU hW⟩⟩ rfl hn hsize hst (lv_room hW) hdg hf) hS (fun q _ h => hF q h) hF (fun u t H1 locs1 ht hvm hw hB hz1 hk1 hS1 => ?_)
  rw [ht] at hB
  obtain ⟨hP', hD'⟩ := va_join hP hD isC isR c1 c2 nd.2.1 nd.2.2 hk1 hF hB.1 hB.2
  exact kk u H1 locs1 hP' hD' hS1
end KN
theorem kcI {R rm : Room} {s : State} {args : Array Value} {own : String} {index n mc ms : Nat} {y : MethodName} {bytes : ByteArray} {maxL : Nat} (hts : ∀ w ∈ wsL_law, w.before args s = true) (hcode : Cond.code y bytes maxL none ∈ wsL_law) (hini : Cond.initialized y.cls ∈ wsL_law) (hinst : Cond.instanceMethod y ∈ wsL_law) (hl : Cond.methodLink own index y ∈ wsL_law) (hrc : rm.cells = mc) (hrs : rm.slots = ms) (hy1 : y.name = "<init>") (hd : y.cls ≠ "java/lang/invoke/MethodHandle" ∧ y.cls ≠ "java/lang/invoke/VarHandle" ∧ (parseMethodDescriptor y.desc).map (fun d => d.parameters.length) = some n) (hR : rm.frames + 1 ≤ R.frames ∧ 8 + (maxL + 11) + rm.locals ≤ R.locals) :
    CallB R s args own index y bytes maxL none (.code y bytes maxL none :: wsL_law) rm mc ms n ∧ y.name = "<init>" ∧ (Cond.instanceMethod y).before args s = true :=
  cwI (ws' := wsL_law) n hts (kgood hcode) rfl hrc hrs (hts _ hini) (hts _ hl) (hts _ hinst) hy1 hd hR
