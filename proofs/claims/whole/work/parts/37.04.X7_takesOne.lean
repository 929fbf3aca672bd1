def nx_X7_takesOne_54 (read : Nat → Int32) (i : Nat) (y54_read : Nat → Int32) : (Nat → Int32) := (upd y54_read (((15 + (6 * (read 1))) + (nI i)).toNatClampNeg) 0)
def x_X7_takesOne_54 (read : Nat → Int32) (text : Nat → Int32) (texted : Int32) (at_ : Int32) (kind : Int32) : (Nat → Int32) := lp (fun iz z => nx_X7_takesOne_54 read iz z) (upd (upd read ((3 + (read 1)).toNatClampNeg) kind) ((9 + (read 1)).toNatClampNeg) ((f_X7_takesNumber text texted at_ 0 63).2.2.2)) 6
def f_X7_takesOne (read : Nat → Int32) (text : Nat → Int32) (texted : Int32) (at_ : Int32) (start : Int32) (number : Int32) (kind : Int32) : Int32 × (Nat → Int32) × Int32 × Int32 × Int32 := if (read 1) = 6 then (0, read, at_, start, number) else (if ((f_X7_takesNumber text texted at_ 0 63).1) = 0 then (0, read, (f_X7_takesNumber text texted at_ 0 63).2.1, (f_X7_takesNumber text texted at_ 0 63).2.2.1, (f_X7_takesNumber text texted at_ 0 63).2.2.2) else (1, (upd (x_X7_takesOne_54 read text texted at_ kind) 1 (((x_X7_takesOne_54 read text texted at_ kind) 1) + 1)), (f_X7_takesNumber text texted at_ 0 63).2.1, (f_X7_takesNumber text texted at_ 0 63).2.2.1, (f_X7_takesNumber text texted at_ 0 63).2.2.2))
abbrev rm_X7_takesOne : Room := { frames := 3, cells := 0, slots := 0, locals := 68 }
theorem b01_X7_takesOne (read text : Nat → Int32) (texted at_ start number kind : Int32) : (f_X7_takesOne read text texted at_ start number kind).1 = 0 ∨ (f_X7_takesOne read text texted at_ start number kind).1 = 1 := by
  unfold f_X7_takesOne
  (repeat' split) <;> first | exact Or.inl rfl | exact Or.inr rfl
theorem e_X7_takesOne (read text : Nat → Int32) {texted at_ : Int32} (start number kind : Int32) (hk : kat at_ texted) : kat (f_X7_takesOne read text texted at_ start number kind).2.2.1 texted := by
  unfold f_X7_takesOne
  split
  · exact hk
  · split <;> (dsimp only; exact e_X7_takesNumber text hk)
theorem klp_out {f : Nat → (Nat → Int32) → (Nat → Int32)} {a : Nat → Int32} {j N : Nat} (h : ∀ (i : Nat) (z : Nat → Int32), i < N → f i z j = z j) : ∀ n, n ≤ N → lp f a n j = a j := by
  intro n
  induction n with
  | zero => intro _; rfl
  | succ n ih => intro hn; rw [lp_succ, h n _ (by omega)]; exact ih (by omega)
theorem r_X7_takesOne {read : Nat → Int32} (text : Nat → Int32) (texted at_ start number kind : Int32) (hr : krd read) : krd (f_X7_takesOne read text texted at_ start number kind).2.1 := by
  unfold f_X7_takesOne
  split
  · exact hr
  · rename_i c
    split
    · exact hr
    · dsimp only
      obtain ⟨a, a1, a2, e⟩ := kne (n := 6) hr.1 (by decide) c
      have key : ∀ j, j < 3 → x_X7_takesOne_54 read text texted at_ kind j = read j := by
        intro j hj
        unfold x_X7_takesOne_54
        rw [klp_out (N := 6) (fun i z hi => ?_) 6 (Nat.le_refl _)]
        · rw [e, show (3 + nI a : Int32) = nI (3 + a) from nI_add 3 a, show (9 + nI a : Int32) = nI (9 + a) from nI_add 9 a, nI_clamp (by omega), nI_clamp (by omega), pk_un (by omega), pk_un (by omega)]
        · unfold nx_X7_takesOne_54
          have q1 : (6 * nI a : Int32) = nI (6 * a) := (Int32.ofNat_mul 6 a).symm
          rw [e, q1, show (15 + nI (6 * a) : Int32) = nI (15 + 6 * a) from nI_add 15 _, nI_add, nI_clamp (by omega), pk_un (by omega)]
      refine ⟨?_, ?_⟩
      · rw [pk_us, key 1 (by decide), e, nI_1]
        exact ⟨a + 1, by omega, by omega, rfl⟩
      · rw [pk_un (by decide), key 2 (by decide)]
        exact hr.2
set_option maxRecDepth 100000 in
set_option maxHeartbeats 4000000 in
theorem k_X7_takesOne (l : Launch) (D : va_G) (cI cZ : ClassId) (u : Nat → Nat) (w : Nat → Int32) (told : Nat → Int32) (read : Nat → Int32) (isK : Nat → Int32) (undoes : Int32) (text : Nat → Int32) (texted : Int32) (seen : Int32) (seS : Nat → Int32) (seB : Nat → Int32) (seP : Nat → Int32) (at_ : Int32) (start : Int32) (clauses : Int32) (number : Int32) (word : Int64) (kind : Int32) (hk : kat at_ texted) (hr : krd read) : CI l D (kTy cI cZ) kT yX7_takesOne (.code yX7_takesOne cX7_takesOne 4 (some .boolean) :: wsL_law) rm_X7_takesOne [.ref (u 0), .int kind] (wM cI cZ u w told read isK undoes text texted seen seS seB seP at_ start clauses number word) (wM cI cZ u w told ((f_X7_takesOne read text texted at_ start number kind).2.1) isK undoes text texted seen seS seB seP ((f_X7_takesOne read text texted at_ start number kind).2.2.1) ((f_X7_takesOne read text texted at_ start number kind).2.2.2.1) clauses ((f_X7_takesOne read text texted at_ start number kind).2.2.2.2) word) ((f_X7_takesOne read text texted at_ start number kind).1) := by
  refine CI.of (cc := cX7_takesOne) (maxL := 4) (ty := .boolean) (by decide) rfl (Nat.le_of_ble_eq_true rfl) (knb (b01_X7_takesOne read text texted at_ start number kind)) ?_
  intro p e s m args below meth c A Q ls hx hb hml hts0 hown hA hP hK hD hE hl hret
  have hts : ∀ w ∈ wsL_law, w.before args s = true := fun w h => hts0 w (List.mem_cons_of_mem _ h)
  clear hts0
  have hown : s.vm.findClass RX7 = some m.cls := hown
  have hl : lv_has ls 4 [(0, .ref (u 0)), (1, .int kind)] := hl
  have hS : va_S A s.heap s.heap [] := va_S.rf
  revert hP hS
  suffices hgo : ∀ (H : Heap) (locs : List Loc), va_P D vwCl (wM cI cZ u w told read isK undoes text texted seen seS seB seP at_ start clauses number word) H → va_S A s.heap H locs → W p l e rm_X7_takesOne s m args below meth c H locs 0 0 Q (F0 m 0 ls []) from fun a b => hgo _ _ a b
  intro H locs hP hS
  refine lv_aload_n hx hb dX7_takesOne_0 rfl (lv_at hl 0 rfl) ?_
  refine va_get (D := D) (ci := 7) (v := .ref (u 3)) (C := RX7) (T := TX7) (N := 16) hx hb hts inlX7 hown hK hP 0 rfl rfl 2 (by decide) (kw hts kin_5 0 rfl) (fun _ h9 => h9) rfl dX7_takesOne_1 ?_
  refine lv_iconst (v := 1) hx hb dX7_takesOne_4 (by decide) ?_
  refine va_iald (cA := cI) (n := 59) (f := read) hx hb hK hP 3 0 rfl rfl ((kb.lit 1).in (by decide) (by decide)) dX7_takesOne_5 ?_
  show W p l e rm_X7_takesOne s m args below meth c H locs 0 0 Q (F0 m 6 ls [.int (read 1)])
  refine lv_bipush (v := 6) hx hb dX7_takesOne_6 (by decide) ?_
  refine lv_icmp_eq (tgt := 21) hx hb dX7_takesOne_8 (by decide) (fun c_8 => ?_) (fun c_8 => ?_)
  · skip
    refine lv_iconst (v := 0) hx hb dX7_takesOne_21 (by decide) ?_
    have hf : (f_X7_takesOne read text texted at_ start number kind) = (0, read, at_, start, number) := (if_pos c_8)
    rw [hf] at hret
    dsimp only at hret
    exact hret _ _ _ _ hP hS dX7_takesOne_22
  · skip
    refine lv_aload_n hx hb dX7_takesOne_11 rfl (lv_at hl 0 rfl) ?_
    refine lv_iconst (v := 0) hx hb dX7_takesOne_12 (by decide) ?_
    refine lv_bipush (v := 63) hx hb dX7_takesOne_13 (by decide) ?_
    refine kvi (As := [.int 0, .int 63]) (rest := []) (q0 := 0) (ci := 7) ⟨hx, hb, hml, hown, hts⟩ hP hK hD hS hA hE (k_X7_takesNumber l D cI cZ  u w told read isK undoes text texted seen seS seB seP at_ start clauses number word 0 63 (hk)) (kcv hts kM_X7_takesNumber (kin_13 _ (List.mem_of_getElem? (i := 6) rfl)) ⟨rfl, rfl⟩ ⟨Nat.le_of_ble_eq_true rfl, Nat.le_of_ble_eq_true rfl⟩) kBl_T kOk_T (wM cI cZ u w told read isK undoes text texted seen seS seB seP ((f_X7_takesNumber text texted at_ 0 63).2.1) ((f_X7_takesNumber text texted at_ 0 63).2.2.1) clauses ((f_X7_takesNumber text texted at_ 0 63).2.2.2) word) (cut_m_m cI cZ u w told read isK undoes text texted seen seS seB seP at_ start clauses number word w told read isK undoes text texted seen seS seB seP ((f_X7_takesNumber text texted at_ 0 63).2.1) ((f_X7_takesNumber text texted at_ 0 63).2.2.1) clauses ((f_X7_takesNumber text texted at_ 0 63).2.2.2) word).1 (cut_m_m cI cZ u w told read isK undoes text texted seen seS seB seP at_ start clauses number word w told read isK undoes text texted seen seS seB seP ((f_X7_takesNumber text texted at_ 0 63).2.1) ((f_X7_takesNumber text texted at_ 0 63).2.2.1) clauses ((f_X7_takesNumber text texted at_ 0 63).2.2.2) word).2 rfl rfl rfl rfl hl.1 rfl (Nat.le_of_ble_eq_true rfl) dX7_takesOne_15 (fun H locs hP hD hS => ?_)
    refine lv_if_ne (tgt := 23) hx hb dX7_takesOne_18 (by decide) (fun c_18 => ?_) (fun c_18 => ?_)
    · skip
      refine lv_aload_n hx hb dX7_takesOne_23 rfl (lv_at hl 0 rfl) ?_
      refine va_get (D := D) (ci := 7) (v := .ref (u 3)) (C := RX7) (T := TX7) (N := 16) hx hb hts inlX7 hown hK hP 0 rfl rfl 2 (by decide) (kw hts kin_5 0 rfl) (fun _ h9 => h9) rfl dX7_takesOne_24 ?_
      refine lv_iconst (v := 1) hx hb dX7_takesOne_27 (by decide) ?_
      refine va_iald (cA := cI) (n := 59) (f := read) hx hb hK hP 3 0 rfl rfl ((kb.lit 1).in (by decide) (by decide)) dX7_takesOne_28 ?_
      show W p l e rm_X7_takesOne s m args below meth c H locs 0 0 Q (F0 m 29 ls [.int (read 1)])
      refine lv_istore_n (lv' := [(2, .int (read 1)), (0, .ref (u 0)), (1, .int kind)]) hx hb dX7_takesOne_29 rfl hl (by decide) rfl (fun ls hl => ?_)
      refine lv_aload_n hx hb dX7_takesOne_30 rfl (lv_at hl 1 rfl) ?_
      refine va_get (D := D) (ci := 7) (v := .ref (u 3)) (C := RX7) (T := TX7) (N := 16) hx hb hts inlX7 hown hK hP 0 rfl rfl 2 (by decide) (kw hts kin_5 0 rfl) (fun _ h9 => h9) rfl dX7_takesOne_31 ?_
      refine lv_iconst (v := 3) hx hb dX7_takesOne_34 (by decide) ?_
      refine lv_iload_n hx hb dX7_takesOne_35 rfl (lv_at hl 0 rfl) ?_
      refine lv_iadd hx hb dX7_takesOne_36 ?_
      refine lv_iload_n hx hb dX7_takesOne_37 rfl (lv_at hl 2 rfl) ?_
      refine va_iast (cA := cI) (n := 59) (f := read) hx hb hK hP hD hS 3 0 rfl rfl ((kb.add (kb.lit 3) (kne (hr).1 (by decide) c_8)).in (by decide) (by decide)) dX7_takesOne_38 (fun H locs hP hD hS => ?_)
      have hP : va_P D vwCl (wM cI cZ u w told (upd read ((3 + (read 1)).toNatClampNeg) kind) isK undoes text texted seen seS seB seP ((f_X7_takesNumber text texted at_ 0 63).2.1) ((f_X7_takesNumber text texted at_ 0 63).2.2.1) clauses ((f_X7_takesNumber text texted at_ 0 63).2.2.2) word) H := hP
      have hD : va_D A (wM cI cZ u w told (upd read ((3 + (read 1)).toNatClampNeg) kind) isK undoes text texted seen seS seB seP ((f_X7_takesNumber text texted at_ 0 63).2.1) ((f_X7_takesNumber text texted at_ 0 63).2.2.1) clauses ((f_X7_takesNumber text texted at_ 0 63).2.2.2) word) := hD
      refine lv_aload_n hx hb dX7_takesOne_39 rfl (lv_at hl 1 rfl) ?_
      refine va_get (D := D) (ci := 7) (v := .ref (u 3)) (C := RX7) (T := TX7) (N := 16) hx hb hts inlX7 hown hK hP 0 rfl rfl 2 (by decide) (kw hts kin_5 0 rfl) (fun _ h9 => h9) rfl dX7_takesOne_40 ?_
      refine lv_bipush (v := 9) hx hb dX7_takesOne_43 (by decide) ?_
      refine lv_iload_n hx hb dX7_takesOne_45 rfl (lv_at hl 0 rfl) ?_
      refine lv_iadd hx hb dX7_takesOne_46 ?_
      refine lv_aload_n hx hb dX7_takesOne_47 rfl (lv_at hl 1 rfl) ?_
      refine va_get (D := D) (ci := 7) (v := .int ((f_X7_takesNumber text texted at_ 0 63).2.2.2)) (C := RX7) (T := TX7) (N := 16) hx hb hts inlX7 hown hK hP 0 rfl rfl 14 (by decide) (kw hts kin_13 5 rfl) (fun _ h9 => h9) rfl dX7_takesOne_48 ?_
      refine va_iast (cA := cI) (n := 59) (f := (upd read ((3 + (read 1)).toNatClampNeg) kind)) hx hb hK hP hD hS 3 0 rfl rfl ((kb.add (kb.lit 9) (kne (hr).1 (by decide) c_8)).in (by decide) (by decide)) dX7_takesOne_51 (fun H locs hP hD hS => ?_)
      have hP : va_P D vwCl (wM cI cZ u w told (upd (upd read ((3 + (read 1)).toNatClampNeg) kind) ((9 + (read 1)).toNatClampNeg) ((f_X7_takesNumber text texted at_ 0 63).2.2.2)) isK undoes text texted seen seS seB seP ((f_X7_takesNumber text texted at_ 0 63).2.1) ((f_X7_takesNumber text texted at_ 0 63).2.2.1) clauses ((f_X7_takesNumber text texted at_ 0 63).2.2.2) word) H := hP
      have hD : va_D A (wM cI cZ u w told (upd (upd read ((3 + (read 1)).toNatClampNeg) kind) ((9 + (read 1)).toNatClampNeg) ((f_X7_takesNumber text texted at_ 0 63).2.2.2)) isK undoes text texted seen seS seB seP ((f_X7_takesNumber text texted at_ 0 63).2.1) ((f_X7_takesNumber text texted at_ 0 63).2.2.1) clauses ((f_X7_takesNumber text texted at_ 0 63).2.2.2) word) := hD
      refine lv_iconst (v := 0) hx hb dX7_takesOne_52 (by decide) ?_
      refine lv_istore_n (lv' := [(3, .int 0), (2, .int (read 1)), (0, .ref (u 0)), (1, .int kind)]) hx hb dX7_takesOne_53 rfl hl (by decide) rfl (fun ls hl => ?_)
      have lp54 : ∀ (k54 i : Nat) (y54_read : Nat → Int32), i + k54 = 6 → y54_read = lp (fun iz z => nx_X7_takesOne_54 read iz z) (upd (upd read ((3 + (read 1)).toNatClampNeg) kind) ((9 + (read 1)).toNatClampNeg) ((f_X7_takesNumber text texted at_ 0 63).2.2.2)) i → ∀ (H : Heap) (locs : List Loc) (ls : Array Slot), va_P D vwCl (wM cI cZ u w told y54_read isK undoes text texted seen seS seB seP ((f_X7_takesNumber text texted at_ 0 63).2.1) ((f_X7_takesNumber text texted at_ 0 63).2.2.1) clauses ((f_X7_takesNumber text texted at_ 0 63).2.2.2) word) H → va_D A (wM cI cZ u w told y54_read isK undoes text texted seen seS seB seP ((f_X7_takesNumber text texted at_ 0 63).2.1) ((f_X7_takesNumber text texted at_ 0 63).2.2.1) clauses ((f_X7_takesNumber text texted at_ 0 63).2.2.2) word) → va_S A s.heap H locs → lv_has ls 4 [(0, .ref (u 0)), (1, .int kind), (2, .int (read 1)), (3, .int (nI i))] → W p l e rm_X7_takesOne s m args below meth c H locs 0 0 Q (F0 m 54 ls []) := by
        intro k54
        induction k54 with
        | zero =>
          intro i y54_read hi54 ea54 H locs ls hP hD hS hl
          have hi54 : 6 = i := by omega
          subst hi54
          have ea54 : y54_read = (x_X7_takesOne_54 read text texted at_ kind) := ea54
          subst ea54
          refine lv_iload_n hx hb dX7_takesOne_54 rfl (lv_at hl 3 rfl) ?_
          refine lv_bipush (v := 6) hx hb dX7_takesOne_55 (by decide) ?_
          refine lv_icmp_ge (tgt := 81) hx hb dX7_takesOne_57 (by decide) (fun _ => ?_) (fun c_57 => absurd (nI_le (Nat.le_refl _) (by decide)) c_57)
          refine lv_aload_n hx hb dX7_takesOne_81 rfl (lv_at hl 0 rfl) ?_
          refine va_get (D := D) (ci := 7) (v := .ref (u 3)) (C := RX7) (T := TX7) (N := 16) hx hb hts inlX7 hown hK hP 0 rfl rfl 2 (by decide) (kw hts kin_5 0 rfl) (fun _ h9 => h9) rfl dX7_takesOne_82 ?_
          refine lv_iconst (v := 1) hx hb dX7_takesOne_85 (by decide) ?_
          refine lv_dup2_11 hx hb dX7_takesOne_86 rfl rfl ?_
          refine va_iald (cA := cI) (n := 59) (f := (x_X7_takesOne_54 read text texted at_ kind)) hx hb hK hP 3 0 rfl rfl ((kb.lit 1).in (by decide) (by decide)) dX7_takesOne_87 ?_
          show W p l e rm_X7_takesOne s m args below meth c H locs 0 0 Q (F0 m 88 ls [.int ((x_X7_takesOne_54 read text texted at_ kind) 1), .int 1, .ref (u 3)])
          refine lv_iconst (v := 1) hx hb dX7_takesOne_88 (by decide) ?_
          refine lv_iadd hx hb dX7_takesOne_89 ?_
          refine va_iast (cA := cI) (n := 59) (f := (x_X7_takesOne_54 read text texted at_ kind)) hx hb hK hP hD hS 3 0 rfl rfl ((kb.lit 1).in (by decide) (by decide)) dX7_takesOne_90 (fun H locs hP hD hS => ?_)
          have hP : va_P D vwCl (wM cI cZ u w told (upd (x_X7_takesOne_54 read text texted at_ kind) 1 (((x_X7_takesOne_54 read text texted at_ kind) 1) + 1)) isK undoes text texted seen seS seB seP ((f_X7_takesNumber text texted at_ 0 63).2.1) ((f_X7_takesNumber text texted at_ 0 63).2.2.1) clauses ((f_X7_takesNumber text texted at_ 0 63).2.2.2) word) H := hP
          have hD : va_D A (wM cI cZ u w told (upd (x_X7_takesOne_54 read text texted at_ kind) 1 (((x_X7_takesOne_54 read text texted at_ kind) 1) + 1)) isK undoes text texted seen seS seB seP ((f_X7_takesNumber text texted at_ 0 63).2.1) ((f_X7_takesNumber text texted at_ 0 63).2.2.1) clauses ((f_X7_takesNumber text texted at_ 0 63).2.2.2) word) := hD
          refine lv_iconst (v := 1) hx hb dX7_takesOne_91 (by decide) ?_
          have hf : (f_X7_takesOne read text texted at_ start number kind) = (1, (upd (x_X7_takesOne_54 read text texted at_ kind) 1 (((x_X7_takesOne_54 read text texted at_ kind) 1) + 1)), (f_X7_takesNumber text texted at_ 0 63).2.1, (f_X7_takesNumber text texted at_ 0 63).2.2.1, (f_X7_takesNumber text texted at_ 0 63).2.2.2) := ((if_neg c_8).trans (if_neg c_18))
          rw [hf] at hret
          dsimp only at hret
          exact hret _ _ _ _ hP hS dX7_takesOne_92
        | succ k54 ih54 =>
          intro i y54_read hi54 ea54 H locs ls hP hD hS hl
          have hlt54 : i < 6 := by omega
          refine lv_iload_n hx hb dX7_takesOne_54 rfl (lv_at hl 3 rfl) ?_
          refine lv_bipush (v := 6) hx hb dX7_takesOne_55 (by decide) ?_
          refine lv_icmp_ge (tgt := 81) hx hb dX7_takesOne_57 (by decide) (fun c_57 => absurd c_57 (nI_ge hlt54 (by decide))) (fun _ => ?_)
          refine lv_aload_n hx hb dX7_takesOne_60 rfl (lv_at hl 0 rfl) ?_
          refine va_get (D := D) (ci := 7) (v := .ref (u 3)) (C := RX7) (T := TX7) (N := 16) hx hb hts inlX7 hown hK hP 0 rfl rfl 2 (by decide) (kw hts kin_5 0 rfl) (fun _ h9 => h9) rfl dX7_takesOne_61 ?_
          refine lv_bipush (v := 15) hx hb dX7_takesOne_64 (by decide) ?_
          refine lv_bipush (v := 6) hx hb dX7_takesOne_66 (by decide) ?_
          refine lv_iload_n hx hb dX7_takesOne_68 rfl (lv_at hl 2 rfl) ?_
          refine lv_imul hx hb dX7_takesOne_69 ?_
          refine lv_iadd hx hb dX7_takesOne_70 ?_
          refine lv_iload_n hx hb dX7_takesOne_71 rfl (lv_at hl 3 rfl) ?_
          refine lv_iadd hx hb dX7_takesOne_72 ?_
          refine lv_iconst (v := 0) hx hb dX7_takesOne_73 (by decide) ?_
          refine va_iast (cA := cI) (n := 59) (f := y54_read) hx hb hK hP hD hS 3 0 rfl rfl ((kb.add (kb.add (kb.lit 15) (kb.mul (c := 6) rfl (kne (hr).1 (by decide) c_8))) (kb.mk hlt54)).in (by decide) (by decide)) dX7_takesOne_74 (fun H locs hP hD hS => ?_)
          have hP : va_P D vwCl (wM cI cZ u w told (upd y54_read (((15 + (6 * (read 1))) + (nI i)).toNatClampNeg) 0) isK undoes text texted seen seS seB seP ((f_X7_takesNumber text texted at_ 0 63).2.1) ((f_X7_takesNumber text texted at_ 0 63).2.2.1) clauses ((f_X7_takesNumber text texted at_ 0 63).2.2.2) word) H := hP
          have hD : va_D A (wM cI cZ u w told (upd y54_read (((15 + (6 * (read 1))) + (nI i)).toNatClampNeg) 0) isK undoes text texted seen seS seB seP ((f_X7_takesNumber text texted at_ 0 63).2.1) ((f_X7_takesNumber text texted at_ 0 63).2.2.1) clauses ((f_X7_takesNumber text texted at_ 0 63).2.2.2) word) := hD
          refine lv_iinc (v := (nI (i + 1))) (lv' := [(3, .int (nI (i + 1))), (0, .ref (u 0)), (1, .int kind), (2, .int (read 1))]) hx hb dX7_takesOne_75 hl (k := 3) rfl (nI_1 i) (by decide) rfl (fun ls hl => ?_)
          refine lv_goto (tgt := 54) hx hb dX7_takesOne_78 (by decide) ?_
          have hb54 : nx_X7_takesOne_54 read i y54_read = (upd y54_read (((15 + (6 * (read 1))) + (nI i)).toNatClampNeg) 0) := rfl
          have hs54 : (lp (fun iz z => nx_X7_takesOne_54 read iz z) (upd (upd read ((3 + (read 1)).toNatClampNeg) kind) ((9 + (read 1)).toNatClampNeg) ((f_X7_takesNumber text texted at_ 0 63).2.2.2)) (i + 1) : (Nat → Int32)) = nx_X7_takesOne_54 read i (lp (fun iz z => nx_X7_takesOne_54 read iz z) (upd (upd read ((3 + (read 1)).toNatClampNeg) kind) ((9 + (read 1)).toNatClampNeg) ((f_X7_takesNumber text texted at_ 0 63).2.2.2)) i : (Nat → Int32)) := lp_succ _ _ _
          rw [← ea54] at hs54
          exact ih54 (i + 1) (upd y54_read (((15 + (6 * (read 1))) + (nI i)).toNatClampNeg) 0) (by omega) (hb54.symm.trans hs54.symm) _ _ _ hP hD hS (lv_sub hl [1, 2, 3, 0] rfl)
      exact lp54 6 0 (upd (upd read ((3 + (read 1)).toNatClampNeg) kind) ((9 + (read 1)).toNatClampNeg) ((f_X7_takesNumber text texted at_ 0 63).2.2.2)) (Nat.zero_add _) (lp_zero _ _).symm _ _ _ hP hD hS (lv_sub hl [2, 3, 1, 0] rfl)
    · skip
      refine lv_iconst (v := 0) hx hb dX7_takesOne_21 (by decide) ?_
      have hf : (f_X7_takesOne read text texted at_ start number kind) = (0, read, (f_X7_takesNumber text texted at_ 0 63).2.1, (f_X7_takesNumber text texted at_ 0 63).2.2.1, (f_X7_takesNumber text texted at_ 0 63).2.2.2) := ((if_neg c_8).trans (if_pos c_18))
      rw [hf] at hret
      dsimp only at hret
      exact hret _ _ _ _ hP hS dX7_takesOne_22
