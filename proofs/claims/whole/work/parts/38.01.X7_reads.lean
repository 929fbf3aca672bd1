def nx_X7_reads_2 (told : Nat → Int32) (i : Nat) (y2_read : Nat → Int32) : (Nat → Int32) := (upd y2_read ((nI i).toNatClampNeg) (told ((nI i).toNatClampNeg)))
def x_X7_reads_2 (told : Nat → Int32) (read : Nat → Int32) : (Nat → Int32) := lp (fun iz z => nx_X7_reads_2 told iz z) read 59
def lo_X7_reads_36 (text : Nat → Int32) (texted : Int32) : Nat → (Nat → Int32) → Int32 → Int32 → Int32 → Int32 → Int64 → (Int32 × (Nat → Int32) × Int32 × Int32 × Int32 × Int32 × Int64)
  | 0, y36_read, y36_at_, y36_start, y36_clauses, y36_number, y36_word => default
  | k36 + 1, y36_read, y36_at_, y36_start, y36_clauses, y36_number, y36_word => if ((f_X7_takesClause y36_read text texted y36_at_ y36_number).1) = 0 then (((f_X7_takesClause y36_read text texted y36_at_ y36_number).2.2.2.1), (f_X7_takesClause y36_read text texted y36_at_ y36_number).2.1, (f_X7_takesClause y36_read text texted y36_at_ y36_number).2.2.1, (f_X7_takesClause y36_read text texted y36_at_ y36_number).2.2.2.1, y36_clauses, (f_X7_takesClause y36_read text texted y36_at_ y36_number).2.2.2.2.1, (f_X7_takesClause y36_read text texted y36_at_ y36_number).2.2.2.2.2) else (if ((f_X7_begins text texted ((f_X7_takesClause y36_read text texted y36_at_ y36_number).2.2.1)).1) = texted then ((-1), (f_X7_takesClause y36_read text texted y36_at_ y36_number).2.1, (f_X7_begins text texted ((f_X7_takesClause y36_read text texted y36_at_ y36_number).2.2.1)).1, (f_X7_begins text texted ((f_X7_takesClause y36_read text texted y36_at_ y36_number).2.2.1)).2, (y36_clauses + 1), (f_X7_takesClause y36_read text texted y36_at_ y36_number).2.2.2.2.1, (f_X7_takesClause y36_read text texted y36_at_ y36_number).2.2.2.2.2) else (if (f_X7_letterAt text texted ((f_X7_begins text texted ((f_X7_takesClause y36_read text texted y36_at_ y36_number).2.2.1)).1)) = 59 then (if (y36_clauses + 1) = 14 then (((f_X7_begins text texted ((f_X7_takesClause y36_read text texted y36_at_ y36_number).2.2.1)).2), (f_X7_takesClause y36_read text texted y36_at_ y36_number).2.1, (f_X7_begins text texted ((f_X7_takesClause y36_read text texted y36_at_ y36_number).2.2.1)).1, (f_X7_begins text texted ((f_X7_takesClause y36_read text texted y36_at_ y36_number).2.2.1)).2, (y36_clauses + 1), (f_X7_takesClause y36_read text texted y36_at_ y36_number).2.2.2.2.1, (f_X7_takesClause y36_read text texted y36_at_ y36_number).2.2.2.2.2) else (lo_X7_reads_36 text texted k36 ((f_X7_takesClause y36_read text texted y36_at_ y36_number).2.1) (((f_X7_begins text texted ((f_X7_takesClause y36_read text texted y36_at_ y36_number).2.2.1)).1) + 1) ((f_X7_begins text texted ((f_X7_takesClause y36_read text texted y36_at_ y36_number).2.2.1)).2) (y36_clauses + 1) ((f_X7_takesClause y36_read text texted y36_at_ y36_number).2.2.2.2.1) ((f_X7_takesClause y36_read text texted y36_at_ y36_number).2.2.2.2.2))) else (((f_X7_begins text texted ((f_X7_takesClause y36_read text texted y36_at_ y36_number).2.2.1)).2), (f_X7_takesClause y36_read text texted y36_at_ y36_number).2.1, (f_X7_begins text texted ((f_X7_takesClause y36_read text texted y36_at_ y36_number).2.2.1)).1, (f_X7_begins text texted ((f_X7_takesClause y36_read text texted y36_at_ y36_number).2.2.1)).2, (y36_clauses + 1), (f_X7_takesClause y36_read text texted y36_at_ y36_number).2.2.2.2.1, (f_X7_takesClause y36_read text texted y36_at_ y36_number).2.2.2.2.2)))
def f_X7_reads (told : Nat → Int32) (read : Nat → Int32) (text : Nat → Int32) (texted : Int32) (start : Int32) (number : Int32) (word : Int64) : Int32 × (Nat → Int32) × Int32 × Int32 × Int32 × Int32 × Int64 := lo_X7_reads_36 text texted ((((14 : Int32).toInt - (0 : Int32).toInt).toNat) + 1) (x_X7_reads_2 told read) 0 start 0 number word
abbrev rm_X7_reads : Room := { frames := 5, cells := 0, slots := 0, locals := 111 }
theorem r_X7_copy59 {told : Nat → Int32} (read : Nat → Int32) (hT1 : kb (told 1) 0 7) (hT2 : kb (told 2) 0 9) : krd (x_X7_reads_2 told read) := by
  have key : ∀ n, n ≤ 59 → ∀ j, j < n → lp (fun iz z => nx_X7_reads_2 told iz z) read n j = told j := by
    intro n
    induction n with
    | zero => intro _ j hj; exact absurd hj (Nat.not_lt_zero _)
    | succ n ih =>
      intro hn j hj
      rw [lp_succ]
      show nx_X7_reads_2 told n _ j = told j
      unfold nx_X7_reads_2
      rw [nI_clamp (by omega)]
      by_cases e : j = n
      · rw [e, pk_us]
      · rw [pk_un e]
        exact ih (by omega) j (by omega)
  unfold x_X7_reads_2
  refine ⟨?_, ?_⟩
  · rw [key 59 (Nat.le_refl _) 1 (by decide)]; exact hT1
  · rw [key 59 (Nat.le_refl _) 2 (by decide)]; exact hT2
theorem kcl14 {c : Int32} (h : ¬ 14 ≤ c) (h2 : ¬ c + 1 = 14) : ¬ 14 ≤ c + 1 := by
  intro e
  apply h2
  rw [Int32.le_iff_toInt_le] at h e
  have h1 := Int32.le_toInt c
  have z : (14 : Int32).toInt = 14 := rfl
  rw [z] at h e
  have e1 : (c + 1).toInt = c.toInt + 1 := by
    rw [Int32.toInt_add, show (1 : Int32).toInt = 1 from rfl]
    exact Int.bmod_eq_of_le (by omega) (by omega)
  rw [e1] at e
  refine Int32.toInt_inj.mp ?_
  rw [e1, z]
  omega
set_option maxRecDepth 100000 in
set_option maxHeartbeats 4000000 in
theorem k_X7_reads (l : Launch) (D : va_G) (cI cZ : ClassId) (u : Nat → Nat) (w : Nat → Int32) (told : Nat → Int32) (read : Nat → Int32) (isK : Nat → Int32) (undoes : Int32) (text : Nat → Int32) (texted : Int32) (seen : Int32) (seS : Nat → Int32) (seB : Nat → Int32) (seP : Nat → Int32) (at_ : Int32) (start : Int32) (clauses : Int32) (number : Int32) (word : Int64) (hX : kb texted 0 161) (hT1 : kb (told 1) 0 7) (hT2 : kb (told 2) 0 9) : CI l D (kTy cI cZ) kT yX7_reads (.code yX7_reads cX7_reads 2 (some .int) :: wsL_law) rm_X7_reads [.ref (u 0)] (wM cI cZ u w told read isK undoes text texted seen seS seB seP at_ start clauses number word) (wM cI cZ u w told ((f_X7_reads told read text texted start number word).2.1) isK undoes text texted seen seS seB seP ((f_X7_reads told read text texted start number word).2.2.1) ((f_X7_reads told read text texted start number word).2.2.2.1) ((f_X7_reads told read text texted start number word).2.2.2.2.1) ((f_X7_reads told read text texted start number word).2.2.2.2.2.1) ((f_X7_reads told read text texted start number word).2.2.2.2.2.2)) ((f_X7_reads told read text texted start number word).1) := by
  refine CI.of (cc := cX7_reads) (maxL := 2) (ty := .int) (by decide) rfl (Nat.le_of_ble_eq_true rfl) rfl ?_
  intro p e s m args below meth c A Q ls hx hb hml hts0 hown hA hP hK hD hE hl hret
  have hts : ∀ w ∈ wsL_law, w.before args s = true := fun w h => hts0 w (List.mem_cons_of_mem _ h)
  clear hts0
  have hown : s.vm.findClass RX7 = some m.cls := hown
  have hl : lv_has ls 2 [(0, .ref (u 0))] := hl
  have hS : va_S A s.heap s.heap [] := va_S.rf
  have hret : ∀ (t0 : Int32) (t_read : Nat → Int32) (t_at_ : Int32) (t_start : Int32) (t_clauses : Int32) (t_number : Int32) (t_word : Int64), (f_X7_reads told read text texted start number word) = (t0, t_read, t_at_, t_start, t_clauses, t_number, t_word) → ∀ (H : Heap) (locs : List Loc) (ls : Array Slot) (pc : Nat), va_P D vwCl (wM cI cZ u w told t_read isK undoes text texted seen seS seB seP t_at_ t_start t_clauses t_number t_word) H → va_S A s.heap H locs → decode cX7_reads pc = .ok (.ireturn, 1) → W p l e rm_X7_reads s m args below meth c H locs 0 0 Q (F0 m pc ls [.int t0]) := by
    intro t0 t_read t_at_ t_start t_clauses t_number t_word ht
    rw [ht] at hret
    exact hret
  revert hP hS
  suffices hgo : ∀ (H : Heap) (locs : List Loc), va_P D vwCl (wM cI cZ u w told read isK undoes text texted seen seS seB seP at_ start clauses number word) H → va_S A s.heap H locs → W p l e rm_X7_reads s m args below meth c H locs 0 0 Q (F0 m 0 ls []) from fun a b => hgo _ _ a b
  intro H locs hP hS
  refine lv_iconst (v := 0) hx hb dX7_reads_0 (by decide) ?_
  refine lv_istore_n (lv' := [(1, .int 0), (0, .ref (u 0))]) hx hb dX7_reads_1 rfl hl (by decide) rfl (fun ls hl => ?_)
  have lp2 : ∀ (k2 i : Nat) (y2_read : Nat → Int32), i + k2 = 59 → y2_read = lp (fun iz z => nx_X7_reads_2 told iz z) read i → ∀ (H : Heap) (locs : List Loc) (ls : Array Slot), va_P D vwCl (wM cI cZ u w told y2_read isK undoes text texted seen seS seB seP at_ start clauses number word) H → va_D A (wM cI cZ u w told y2_read isK undoes text texted seen seS seB seP at_ start clauses number word) → va_S A s.heap H locs → lv_has ls 2 [(0, .ref (u 0)), (1, .int (nI i))] → W p l e rm_X7_reads s m args below meth c H locs 0 0 Q (F0 m 2 ls []) := by
    intro k2
    induction k2 with
    | zero =>
      intro i y2_read hi2 ea2 H locs ls hP hD hS hl
      have hi2 : 59 = i := by omega
      subst hi2
      have ea2 : y2_read = (x_X7_reads_2 told read) := ea2
      subst ea2
      refine lv_iload_n hx hb dX7_reads_2 rfl (lv_at hl 1 rfl) ?_
      refine lv_bipush (v := 59) hx hb dX7_reads_3 (by decide) ?_
      refine lv_icmp_ge (tgt := 26) hx hb dX7_reads_5 (by decide) (fun _ => ?_) (fun c_5 => absurd (nI_le (Nat.le_refl _) (by decide)) c_5)
      refine lv_aload_n hx hb dX7_reads_26 rfl (lv_at hl 0 rfl) ?_
      refine lv_iconst (v := 0) hx hb dX7_reads_27 (by decide) ?_
      refine va_put (D := D) (ci := 7) (v := .int 0) (ty := .int) (C := RX7) (T := TX7) (N := 16) hx hb hts inlX7 tyX7 tyX7_ok nmX7 hown hK hP hD hS 0 rfl rfl 11 (by decide) (kw hts kin_11 16 rfl) (fun _ h9 => h9) rfl (by decide +kernel) rfl rfl (Nat.le_of_ble_eq_true rfl) dX7_reads_28 (fun H locs hP hD hS => ?_)
      have hP : va_P D vwCl (wM cI cZ u w told (x_X7_reads_2 told read) isK undoes text texted seen seS seB seP 0 start clauses number word) H := hP
      have hD : va_D A (wM cI cZ u w told (x_X7_reads_2 told read) isK undoes text texted seen seS seB seP 0 start clauses number word) := hD
      refine lv_aload_n hx hb dX7_reads_31 rfl (lv_at hl 0 rfl) ?_
      refine lv_iconst (v := 0) hx hb dX7_reads_32 (by decide) ?_
      refine va_put (D := D) (ci := 7) (v := .int 0) (ty := .int) (C := RX7) (T := TX7) (N := 16) hx hb hts inlX7 tyX7 tyX7_ok nmX7 hown hK hP hD hS 0 rfl rfl 13 (by decide) (kw hts kin_11 17 rfl) (fun _ h9 => h9) rfl (by decide +kernel) rfl rfl (Nat.le_of_ble_eq_true rfl) dX7_reads_33 (fun H locs hP hD hS => ?_)
      have hP : va_P D vwCl (wM cI cZ u w told (x_X7_reads_2 told read) isK undoes text texted seen seS seB seP 0 start 0 number word) H := hP
      have hD : va_D A (wM cI cZ u w told (x_X7_reads_2 told read) isK undoes text texted seen seS seB seP 0 start 0 number word) := hD
      have lp36 : ∀ (k36 : Nat) (y36_read : Nat → Int32) (y36_at_ : Int32) (y36_start : Int32) (y36_clauses : Int32) (y36_number : Int32) (y36_word : Int64), ((14 : Int32).toInt - y36_clauses.toInt).toNat < k36 → ¬ 14 ≤ y36_clauses → kat y36_at_ texted → krd y36_read → lo_X7_reads_36 text texted k36 y36_read y36_at_ y36_start y36_clauses y36_number y36_word = (f_X7_reads told read text texted start number word) → ∀ (H : Heap) (locs : List Loc) (ls : Array Slot), va_P D vwCl (wM cI cZ u w told y36_read isK undoes text texted seen seS seB seP y36_at_ y36_start y36_clauses y36_number y36_word) H → va_D A (wM cI cZ u w told y36_read isK undoes text texted seen seS seB seP y36_at_ y36_start y36_clauses y36_number y36_word) → va_S A s.heap H locs → lv_has ls 2 [(0, .ref (u 0))] → W p l e rm_X7_reads s m args below meth c H locs 0 0 Q (F0 m 36 ls []) := by
        intro k36
        induction k36 with
        | zero =>
          intro y36_read y36_at_ y36_start y36_clauses y36_number y36_word hm36 hv36 hk36 hr36 ea36 H locs ls hP hD hS hl
          exact absurd hm36 (Nat.not_lt_zero _)
        | succ k36 ih36 =>
          intro y36_read y36_at_ y36_start y36_clauses y36_number y36_word hm36 hv36 hk36 hr36 ea36 H locs ls hP hD hS hl
          refine lv_aload_n hx hb dX7_reads_36 rfl (lv_at hl 0 rfl) ?_
          refine kvi (As := []) (rest := []) (q0 := 0) (ci := 7) ⟨hx, hb, hml, hown, hts⟩ hP hK hD hS hA hE (k_X7_takesClause l D cI cZ  u w told y36_read isK undoes text texted seen seS seB seP y36_at_ y36_start y36_clauses y36_number y36_word (hk36) (hr36)) (kcv hts kM_X7_takesClause (kin_11 _ (List.mem_of_getElem? (i := 19) rfl)) ⟨rfl, rfl⟩ ⟨Nat.le_of_ble_eq_true rfl, Nat.le_of_ble_eq_true rfl⟩) kBl_T kOk_T (wM cI cZ u w told ((f_X7_takesClause y36_read text texted y36_at_ y36_number).2.1) isK undoes text texted seen seS seB seP ((f_X7_takesClause y36_read text texted y36_at_ y36_number).2.2.1) ((f_X7_takesClause y36_read text texted y36_at_ y36_number).2.2.2.1) y36_clauses ((f_X7_takesClause y36_read text texted y36_at_ y36_number).2.2.2.2.1) ((f_X7_takesClause y36_read text texted y36_at_ y36_number).2.2.2.2.2)) (cut_m_m cI cZ u w told y36_read isK undoes text texted seen seS seB seP y36_at_ y36_start y36_clauses y36_number y36_word w told ((f_X7_takesClause y36_read text texted y36_at_ y36_number).2.1) isK undoes text texted seen seS seB seP ((f_X7_takesClause y36_read text texted y36_at_ y36_number).2.2.1) ((f_X7_takesClause y36_read text texted y36_at_ y36_number).2.2.2.1) y36_clauses ((f_X7_takesClause y36_read text texted y36_at_ y36_number).2.2.2.2.1) ((f_X7_takesClause y36_read text texted y36_at_ y36_number).2.2.2.2.2)).1 (cut_m_m cI cZ u w told y36_read isK undoes text texted seen seS seB seP y36_at_ y36_start y36_clauses y36_number y36_word w told ((f_X7_takesClause y36_read text texted y36_at_ y36_number).2.1) isK undoes text texted seen seS seB seP ((f_X7_takesClause y36_read text texted y36_at_ y36_number).2.2.1) ((f_X7_takesClause y36_read text texted y36_at_ y36_number).2.2.2.1) y36_clauses ((f_X7_takesClause y36_read text texted y36_at_ y36_number).2.2.2.2.1) ((f_X7_takesClause y36_read text texted y36_at_ y36_number).2.2.2.2.2)).2 rfl rfl rfl rfl hl.1 rfl (Nat.le_of_ble_eq_true rfl) dX7_reads_37 (fun H locs hP hD hS => ?_)
          refine lv_if_ne (tgt := 48) hx hb dX7_reads_40 (by decide) (fun c_40 => ?_) (fun c_40 => ?_)
          · skip
            refine lv_aload_n hx hb dX7_reads_48 rfl (lv_at hl 0 rfl) ?_
            refine lv_dup hx hb dX7_reads_49 rfl ?_
            refine va_get (D := D) (ci := 7) (v := .int y36_clauses) (C := RX7) (T := TX7) (N := 16) hx hb hts inlX7 hown hK hP 0 rfl rfl 13 (by decide) (kw hts kin_11 17 rfl) (fun _ h9 => h9) rfl dX7_reads_50 ?_
            refine lv_iconst (v := 1) hx hb dX7_reads_53 (by decide) ?_
            refine lv_iadd hx hb dX7_reads_54 ?_
            refine va_put (D := D) (ci := 7) (v := .int (y36_clauses + 1)) (ty := .int) (C := RX7) (T := TX7) (N := 16) hx hb hts inlX7 tyX7 tyX7_ok nmX7 hown hK hP hD hS 0 rfl rfl 13 (by decide) (kw hts kin_11 17 rfl) (fun _ h9 => h9) rfl (by decide +kernel) rfl rfl (Nat.le_of_ble_eq_true rfl) dX7_reads_55 (fun H locs hP hD hS => ?_)
            have hP : va_P D vwCl (wM cI cZ u w told ((f_X7_takesClause y36_read text texted y36_at_ y36_number).2.1) isK undoes text texted seen seS seB seP ((f_X7_takesClause y36_read text texted y36_at_ y36_number).2.2.1) ((f_X7_takesClause y36_read text texted y36_at_ y36_number).2.2.2.1) (y36_clauses + 1) ((f_X7_takesClause y36_read text texted y36_at_ y36_number).2.2.2.2.1) ((f_X7_takesClause y36_read text texted y36_at_ y36_number).2.2.2.2.2)) H := hP
            have hD : va_D A (wM cI cZ u w told ((f_X7_takesClause y36_read text texted y36_at_ y36_number).2.1) isK undoes text texted seen seS seB seP ((f_X7_takesClause y36_read text texted y36_at_ y36_number).2.2.1) ((f_X7_takesClause y36_read text texted y36_at_ y36_number).2.2.2.1) (y36_clauses + 1) ((f_X7_takesClause y36_read text texted y36_at_ y36_number).2.2.2.2.1) ((f_X7_takesClause y36_read text texted y36_at_ y36_number).2.2.2.2.2)) := hD
            refine lv_aload_n hx hb dX7_reads_58 rfl (lv_at hl 0 rfl) ?_
            refine kvv (As := []) (rest := []) (q0 := 0) (ci := 7) ⟨hx, hb, hml, hown, hts⟩ hP hK hD hS hA hE (k_X7_begins l D cI cZ  u w told ((f_X7_takesClause y36_read text texted y36_at_ y36_number).2.1) isK undoes text texted seen seS seB seP ((f_X7_takesClause y36_read text texted y36_at_ y36_number).2.2.1) ((f_X7_takesClause y36_read text texted y36_at_ y36_number).2.2.2.1) (y36_clauses + 1) ((f_X7_takesClause y36_read text texted y36_at_ y36_number).2.2.2.2.1) ((f_X7_takesClause y36_read text texted y36_at_ y36_number).2.2.2.2.2) (e_X7_takesClause y36_read text y36_number (hk36))) (kcv hts kM_X7_begins (kin_12 _ (List.mem_of_getElem? (i := 11) rfl)) ⟨rfl, rfl⟩ ⟨Nat.le_of_ble_eq_true rfl, Nat.le_of_ble_eq_true rfl⟩) kBl_T kOk_T (wM cI cZ u w told ((f_X7_takesClause y36_read text texted y36_at_ y36_number).2.1) isK undoes text texted seen seS seB seP ((f_X7_begins text texted ((f_X7_takesClause y36_read text texted y36_at_ y36_number).2.2.1)).1) ((f_X7_begins text texted ((f_X7_takesClause y36_read text texted y36_at_ y36_number).2.2.1)).2) (y36_clauses + 1) ((f_X7_takesClause y36_read text texted y36_at_ y36_number).2.2.2.2.1) ((f_X7_takesClause y36_read text texted y36_at_ y36_number).2.2.2.2.2)) (cut_m_m cI cZ u w told ((f_X7_takesClause y36_read text texted y36_at_ y36_number).2.1) isK undoes text texted seen seS seB seP ((f_X7_takesClause y36_read text texted y36_at_ y36_number).2.2.1) ((f_X7_takesClause y36_read text texted y36_at_ y36_number).2.2.2.1) (y36_clauses + 1) ((f_X7_takesClause y36_read text texted y36_at_ y36_number).2.2.2.2.1) ((f_X7_takesClause y36_read text texted y36_at_ y36_number).2.2.2.2.2) w told ((f_X7_takesClause y36_read text texted y36_at_ y36_number).2.1) isK undoes text texted seen seS seB seP ((f_X7_begins text texted ((f_X7_takesClause y36_read text texted y36_at_ y36_number).2.2.1)).1) ((f_X7_begins text texted ((f_X7_takesClause y36_read text texted y36_at_ y36_number).2.2.1)).2) (y36_clauses + 1) ((f_X7_takesClause y36_read text texted y36_at_ y36_number).2.2.2.2.1) ((f_X7_takesClause y36_read text texted y36_at_ y36_number).2.2.2.2.2)).1 (cut_m_m cI cZ u w told ((f_X7_takesClause y36_read text texted y36_at_ y36_number).2.1) isK undoes text texted seen seS seB seP ((f_X7_takesClause y36_read text texted y36_at_ y36_number).2.2.1) ((f_X7_takesClause y36_read text texted y36_at_ y36_number).2.2.2.1) (y36_clauses + 1) ((f_X7_takesClause y36_read text texted y36_at_ y36_number).2.2.2.2.1) ((f_X7_takesClause y36_read text texted y36_at_ y36_number).2.2.2.2.2) w told ((f_X7_takesClause y36_read text texted y36_at_ y36_number).2.1) isK undoes text texted seen seS seB seP ((f_X7_begins text texted ((f_X7_takesClause y36_read text texted y36_at_ y36_number).2.2.1)).1) ((f_X7_begins text texted ((f_X7_takesClause y36_read text texted y36_at_ y36_number).2.2.1)).2) (y36_clauses + 1) ((f_X7_takesClause y36_read text texted y36_at_ y36_number).2.2.2.2.1) ((f_X7_takesClause y36_read text texted y36_at_ y36_number).2.2.2.2.2)).2 rfl rfl rfl rfl hl.1 rfl (Nat.le_of_ble_eq_true rfl) dX7_reads_59 (fun H locs hP hD hS => ?_)
            refine lv_aload_n hx hb dX7_reads_62 rfl (lv_at hl 0 rfl) ?_
            refine va_get (D := D) (ci := 7) (v := .int ((f_X7_begins text texted ((f_X7_takesClause y36_read text texted y36_at_ y36_number).2.2.1)).1)) (C := RX7) (T := TX7) (N := 16) hx hb hts inlX7 hown hK hP 0 rfl rfl 11 (by decide) (kw hts kin_11 16 rfl) (fun _ h9 => h9) rfl dX7_reads_63 ?_
            refine lv_aload_n hx hb dX7_reads_66 rfl (lv_at hl 0 rfl) ?_
            refine va_get (D := D) (ci := 7) (v := .int texted) (C := RX7) (T := TX7) (N := 16) hx hb hts inlX7 hown hK hP 0 rfl rfl 6 (by decide) (kw hts kin_6 5 rfl) (fun _ h9 => h9) rfl dX7_reads_67 ?_
            refine lv_icmp_ne (tgt := 75) hx hb dX7_reads_70 (by decide) (fun c_70 => ?_) (fun c_70 => ?_)
            · skip
              refine lv_aload_n hx hb dX7_reads_75 rfl (lv_at hl 0 rfl) ?_
              refine lv_aload_n hx hb dX7_reads_76 rfl (lv_at hl 0 rfl) ?_
              refine va_get (D := D) (ci := 7) (v := .int ((f_X7_begins text texted ((f_X7_takesClause y36_read text texted y36_at_ y36_number).2.2.1)).1)) (C := RX7) (T := TX7) (N := 16) hx hb hts inlX7 hown hK hP 0 rfl rfl 11 (by decide) (kw hts kin_11 16 rfl) (fun _ h9 => h9) rfl dX7_reads_77 ?_
              refine kvi (As := [.int ((f_X7_begins text texted ((f_X7_takesClause y36_read text texted y36_at_ y36_number).2.2.1)).1)]) (rest := []) (q0 := 0) (ci := 7) ⟨hx, hb, hml, hown, hts⟩ hP hK hD hS hA hE (k_X7_letterAt l D cI cZ  u w told ((f_X7_takesClause y36_read text texted y36_at_ y36_number).2.1) isK undoes text texted seen seS seB seP ((f_X7_begins text texted ((f_X7_takesClause y36_read text texted y36_at_ y36_number).2.2.1)).1) ((f_X7_begins text texted ((f_X7_takesClause y36_read text texted y36_at_ y36_number).2.2.1)).2) (y36_clauses + 1) ((f_X7_takesClause y36_read text texted y36_at_ y36_number).2.2.2.2.1) ((f_X7_takesClause y36_read text texted y36_at_ y36_number).2.2.2.2.2) ((f_X7_begins text texted ((f_X7_takesClause y36_read text texted y36_at_ y36_number).2.2.1)).1) ((e_X7_begins text (e_X7_takesClause y36_read text y36_number (hk36))).b.wide (by decide) (by decide)) ((e_X7_begins text (e_X7_takesClause y36_read text y36_number (hk36))).t.wide (by decide) (by decide))) (kcv hts kM_X7_letterAt (kin_12 _ (List.mem_of_getElem? (i := 15) rfl)) ⟨rfl, rfl⟩ ⟨Nat.le_of_ble_eq_true rfl, Nat.le_of_ble_eq_true rfl⟩) kBl_T kOk_T (wM cI cZ u w told ((f_X7_takesClause y36_read text texted y36_at_ y36_number).2.1) isK undoes text texted seen seS seB seP ((f_X7_begins text texted ((f_X7_takesClause y36_read text texted y36_at_ y36_number).2.2.1)).1) ((f_X7_begins text texted ((f_X7_takesClause y36_read text texted y36_at_ y36_number).2.2.1)).2) (y36_clauses + 1) ((f_X7_takesClause y36_read text texted y36_at_ y36_number).2.2.2.2.1) ((f_X7_takesClause y36_read text texted y36_at_ y36_number).2.2.2.2.2)) (cut_m_m cI cZ u w told ((f_X7_takesClause y36_read text texted y36_at_ y36_number).2.1) isK undoes text texted seen seS seB seP ((f_X7_begins text texted ((f_X7_takesClause y36_read text texted y36_at_ y36_number).2.2.1)).1) ((f_X7_begins text texted ((f_X7_takesClause y36_read text texted y36_at_ y36_number).2.2.1)).2) (y36_clauses + 1) ((f_X7_takesClause y36_read text texted y36_at_ y36_number).2.2.2.2.1) ((f_X7_takesClause y36_read text texted y36_at_ y36_number).2.2.2.2.2) w told ((f_X7_takesClause y36_read text texted y36_at_ y36_number).2.1) isK undoes text texted seen seS seB seP ((f_X7_begins text texted ((f_X7_takesClause y36_read text texted y36_at_ y36_number).2.2.1)).1) ((f_X7_begins text texted ((f_X7_takesClause y36_read text texted y36_at_ y36_number).2.2.1)).2) (y36_clauses + 1) ((f_X7_takesClause y36_read text texted y36_at_ y36_number).2.2.2.2.1) ((f_X7_takesClause y36_read text texted y36_at_ y36_number).2.2.2.2.2)).1 (cut_m_m cI cZ u w told ((f_X7_takesClause y36_read text texted y36_at_ y36_number).2.1) isK undoes text texted seen seS seB seP ((f_X7_begins text texted ((f_X7_takesClause y36_read text texted y36_at_ y36_number).2.2.1)).1) ((f_X7_begins text texted ((f_X7_takesClause y36_read text texted y36_at_ y36_number).2.2.1)).2) (y36_clauses + 1) ((f_X7_takesClause y36_read text texted y36_at_ y36_number).2.2.2.2.1) ((f_X7_takesClause y36_read text texted y36_at_ y36_number).2.2.2.2.2) w told ((f_X7_takesClause y36_read text texted y36_at_ y36_number).2.1) isK undoes text texted seen seS seB seP ((f_X7_begins text texted ((f_X7_takesClause y36_read text texted y36_at_ y36_number).2.2.1)).1) ((f_X7_begins text texted ((f_X7_takesClause y36_read text texted y36_at_ y36_number).2.2.1)).2) (y36_clauses + 1) ((f_X7_takesClause y36_read text texted y36_at_ y36_number).2.2.2.2.1) ((f_X7_takesClause y36_read text texted y36_at_ y36_number).2.2.2.2.2)).2 rfl rfl rfl rfl hl.1 rfl (Nat.le_of_ble_eq_true rfl) dX7_reads_80 (fun H locs hP hD hS => ?_)
              refine lv_bipush (v := 59) hx hb dX7_reads_83 (by decide) ?_
              refine lv_icmp_ne (tgt := 97) hx hb dX7_reads_85 (by decide) (fun c_85 => ?_) (fun c_85 => ?_)
              · skip
                refine lv_aload_n hx hb dX7_reads_97 rfl (lv_at hl 0 rfl) ?_
                refine va_get (D := D) (ci := 7) (v := .int ((f_X7_begins text texted ((f_X7_takesClause y36_read text texted y36_at_ y36_number).2.2.1)).2)) (C := RX7) (T := TX7) (N := 16) hx hb hts inlX7 hown hK hP 0 rfl rfl 12 (by decide) (kw hts kin_11 18 rfl) (fun _ h9 => h9) rfl dX7_reads_98 ?_
                have hf : (f_X7_reads told read text texted start number word) = (((f_X7_begins text texted ((f_X7_takesClause y36_read text texted y36_at_ y36_number).2.2.1)).2), (f_X7_takesClause y36_read text texted y36_at_ y36_number).2.1, (f_X7_begins text texted ((f_X7_takesClause y36_read text texted y36_at_ y36_number).2.2.1)).1, (f_X7_begins text texted ((f_X7_takesClause y36_read text texted y36_at_ y36_number).2.2.1)).2, (y36_clauses + 1), (f_X7_takesClause y36_read text texted y36_at_ y36_number).2.2.2.2.1, (f_X7_takesClause y36_read text texted y36_at_ y36_number).2.2.2.2.2) := (ea36).symm.trans ((if_neg c_40).trans ((if_neg c_70).trans (if_neg c_85)))
                exact hret _ _ _ _ _ _ _ hf _ _ _ _ hP hS dX7_reads_101
              · skip
                refine lv_aload_n hx hb dX7_reads_88 rfl (lv_at hl 0 rfl) ?_
                refine va_get (D := D) (ci := 7) (v := .int (y36_clauses + 1)) (C := RX7) (T := TX7) (N := 16) hx hb hts inlX7 hown hK hP 0 rfl rfl 13 (by decide) (kw hts kin_11 17 rfl) (fun _ h9 => h9) rfl dX7_reads_89 ?_
                refine lv_bipush (v := 14) hx hb dX7_reads_92 (by decide) ?_
                refine lv_icmp_ne (tgt := 102) hx hb dX7_reads_94 (by decide) (fun c_94 => ?_) (fun c_94 => ?_)
                · skip
                  refine lv_aload_n hx hb dX7_reads_102 rfl (lv_at hl 0 rfl) ?_
                  refine lv_dup hx hb dX7_reads_103 rfl ?_
                  refine va_get (D := D) (ci := 7) (v := .int ((f_X7_begins text texted ((f_X7_takesClause y36_read text texted y36_at_ y36_number).2.2.1)).1)) (C := RX7) (T := TX7) (N := 16) hx hb hts inlX7 hown hK hP 0 rfl rfl 11 (by decide) (kw hts kin_11 16 rfl) (fun _ h9 => h9) rfl dX7_reads_104 ?_
                  refine lv_iconst (v := 1) hx hb dX7_reads_107 (by decide) ?_
                  refine lv_iadd hx hb dX7_reads_108 ?_
                  refine va_put (D := D) (ci := 7) (v := .int (((f_X7_begins text texted ((f_X7_takesClause y36_read text texted y36_at_ y36_number).2.2.1)).1) + 1)) (ty := .int) (C := RX7) (T := TX7) (N := 16) hx hb hts inlX7 tyX7 tyX7_ok nmX7 hown hK hP hD hS 0 rfl rfl 11 (by decide) (kw hts kin_11 16 rfl) (fun _ h9 => h9) rfl (by decide +kernel) rfl rfl (Nat.le_of_ble_eq_true rfl) dX7_reads_109 (fun H locs hP hD hS => ?_)
                  have hP : va_P D vwCl (wM cI cZ u w told ((f_X7_takesClause y36_read text texted y36_at_ y36_number).2.1) isK undoes text texted seen seS seB seP (((f_X7_begins text texted ((f_X7_takesClause y36_read text texted y36_at_ y36_number).2.2.1)).1) + 1) ((f_X7_begins text texted ((f_X7_takesClause y36_read text texted y36_at_ y36_number).2.2.1)).2) (y36_clauses + 1) ((f_X7_takesClause y36_read text texted y36_at_ y36_number).2.2.2.2.1) ((f_X7_takesClause y36_read text texted y36_at_ y36_number).2.2.2.2.2)) H := hP
                  have hD : va_D A (wM cI cZ u w told ((f_X7_takesClause y36_read text texted y36_at_ y36_number).2.1) isK undoes text texted seen seS seB seP (((f_X7_begins text texted ((f_X7_takesClause y36_read text texted y36_at_ y36_number).2.2.1)).1) + 1) ((f_X7_begins text texted ((f_X7_takesClause y36_read text texted y36_at_ y36_number).2.2.1)).2) (y36_clauses + 1) ((f_X7_takesClause y36_read text texted y36_at_ y36_number).2.2.2.2.1) ((f_X7_takesClause y36_read text texted y36_at_ y36_number).2.2.2.2.2)) := hD
                  refine lv_goto (tgt := 36) hx hb dX7_reads_112 (by decide) ?_
                  have hb36 : lo_X7_reads_36 text texted (k36 + 1) y36_read y36_at_ y36_start y36_clauses y36_number y36_word = lo_X7_reads_36 text texted k36 ((f_X7_takesClause y36_read text texted y36_at_ y36_number).2.1) (((f_X7_begins text texted ((f_X7_takesClause y36_read text texted y36_at_ y36_number).2.2.1)).1) + 1) ((f_X7_begins text texted ((f_X7_takesClause y36_read text texted y36_at_ y36_number).2.2.1)).2) (y36_clauses + 1) ((f_X7_takesClause y36_read text texted y36_at_ y36_number).2.2.2.2.1) ((f_X7_takesClause y36_read text texted y36_at_ y36_number).2.2.2.2.2) := ((if_neg c_40).trans ((if_neg c_70).trans ((if_pos c_85).trans (if_neg c_94))))
                  exact ih36 ((f_X7_takesClause y36_read text texted y36_at_ y36_number).2.1) (((f_X7_begins text texted ((f_X7_takesClause y36_read text texted y36_at_ y36_number).2.2.1)).1) + 1) ((f_X7_begins text texted ((f_X7_takesClause y36_read text texted y36_at_ y36_number).2.2.1)).2) (y36_clauses + 1) ((f_X7_takesClause y36_read text texted y36_at_ y36_number).2.2.2.2.1) ((f_X7_takesClause y36_read text texted y36_at_ y36_number).2.2.2.2.2) (kmu hm36 hv36) (kcl14 hv36 c_94) (kat.succ (e_X7_begins text (e_X7_takesClause y36_read text y36_number hk36)) (kletter c_85 (by decide))) (r_X7_takesClause text texted y36_at_ y36_number hr36) (hb36.symm.trans ea36) _ _ _ hP hD hS (lv_sub hl [0] rfl)
                · skip
                  refine lv_aload_n hx hb dX7_reads_97 rfl (lv_at hl 0 rfl) ?_
                  refine va_get (D := D) (ci := 7) (v := .int ((f_X7_begins text texted ((f_X7_takesClause y36_read text texted y36_at_ y36_number).2.2.1)).2)) (C := RX7) (T := TX7) (N := 16) hx hb hts inlX7 hown hK hP 0 rfl rfl 12 (by decide) (kw hts kin_11 18 rfl) (fun _ h9 => h9) rfl dX7_reads_98 ?_
                  have hf : (f_X7_reads told read text texted start number word) = (((f_X7_begins text texted ((f_X7_takesClause y36_read text texted y36_at_ y36_number).2.2.1)).2), (f_X7_takesClause y36_read text texted y36_at_ y36_number).2.1, (f_X7_begins text texted ((f_X7_takesClause y36_read text texted y36_at_ y36_number).2.2.1)).1, (f_X7_begins text texted ((f_X7_takesClause y36_read text texted y36_at_ y36_number).2.2.1)).2, (y36_clauses + 1), (f_X7_takesClause y36_read text texted y36_at_ y36_number).2.2.2.2.1, (f_X7_takesClause y36_read text texted y36_at_ y36_number).2.2.2.2.2) := (ea36).symm.trans ((if_neg c_40).trans ((if_neg c_70).trans ((if_pos c_85).trans (if_pos c_94))))
                  exact hret _ _ _ _ _ _ _ hf _ _ _ _ hP hS dX7_reads_101
            · skip
              refine lv_iconst (v := (-1)) hx hb dX7_reads_73 (by decide) ?_
              have hf : (f_X7_reads told read text texted start number word) = ((-1), (f_X7_takesClause y36_read text texted y36_at_ y36_number).2.1, (f_X7_begins text texted ((f_X7_takesClause y36_read text texted y36_at_ y36_number).2.2.1)).1, (f_X7_begins text texted ((f_X7_takesClause y36_read text texted y36_at_ y36_number).2.2.1)).2, (y36_clauses + 1), (f_X7_takesClause y36_read text texted y36_at_ y36_number).2.2.2.2.1, (f_X7_takesClause y36_read text texted y36_at_ y36_number).2.2.2.2.2) := (ea36).symm.trans ((if_neg c_40).trans (if_pos c_70))
              exact hret _ _ _ _ _ _ _ hf _ _ _ _ hP hS dX7_reads_74
          · skip
            refine lv_aload_n hx hb dX7_reads_43 rfl (lv_at hl 0 rfl) ?_
            refine va_get (D := D) (ci := 7) (v := .int ((f_X7_takesClause y36_read text texted y36_at_ y36_number).2.2.2.1)) (C := RX7) (T := TX7) (N := 16) hx hb hts inlX7 hown hK hP 0 rfl rfl 12 (by decide) (kw hts kin_11 18 rfl) (fun _ h9 => h9) rfl dX7_reads_44 ?_
            have hf : (f_X7_reads told read text texted start number word) = (((f_X7_takesClause y36_read text texted y36_at_ y36_number).2.2.2.1), (f_X7_takesClause y36_read text texted y36_at_ y36_number).2.1, (f_X7_takesClause y36_read text texted y36_at_ y36_number).2.2.1, (f_X7_takesClause y36_read text texted y36_at_ y36_number).2.2.2.1, y36_clauses, (f_X7_takesClause y36_read text texted y36_at_ y36_number).2.2.2.2.1, (f_X7_takesClause y36_read text texted y36_at_ y36_number).2.2.2.2.2) := (ea36).symm.trans (if_pos c_40)
            exact hret _ _ _ _ _ _ _ hf _ _ _ _ hP hS dX7_reads_47
      exact lp36 ((((14 : Int32).toInt - (0 : Int32).toInt).toNat) + 1) (x_X7_reads_2 told read) 0 start 0 number word (Nat.lt_succ_self _) (by decide) (kat.zero hX) (r_X7_copy59 read hT1 hT2) (Eq.symm (rfl : (f_X7_reads told read text texted start number word) = lo_X7_reads_36 text texted ((((14 : Int32).toInt - (0 : Int32).toInt).toNat) + 1) (x_X7_reads_2 told read) 0 start 0 number word)) _ _ _ hP hD hS (lv_sub hl [0] rfl)
    | succ k2 ih2 =>
      intro i y2_read hi2 ea2 H locs ls hP hD hS hl
      have hlt2 : i < 59 := by omega
      refine lv_iload_n hx hb dX7_reads_2 rfl (lv_at hl 1 rfl) ?_
      refine lv_bipush (v := 59) hx hb dX7_reads_3 (by decide) ?_
      refine lv_icmp_ge (tgt := 26) hx hb dX7_reads_5 (by decide) (fun c_5 => absurd c_5 (nI_ge hlt2 (by decide))) (fun _ => ?_)
      refine lv_aload_n hx hb dX7_reads_8 rfl (lv_at hl 0 rfl) ?_
      refine va_get (D := D) (ci := 7) (v := .ref (u 3)) (C := RX7) (T := TX7) (N := 16) hx hb hts inlX7 hown hK hP 0 rfl rfl 2 (by decide) (kw hts kin_5 0 rfl) (fun _ h9 => h9) rfl dX7_reads_9 ?_
      refine lv_iload_n hx hb dX7_reads_12 rfl (lv_at hl 1 rfl) ?_
      refine lv_aload_n hx hb dX7_reads_13 rfl (lv_at hl 0 rfl) ?_
      refine va_get (D := D) (ci := 7) (v := .ref (u 2)) (C := RX7) (T := TX7) (N := 16) hx hb hts inlX7 hown hK hP 0 rfl rfl 1 (by decide) (kw hts kin_4 23 rfl) (fun _ h9 => h9) rfl dX7_reads_14 ?_
      refine lv_iload_n hx hb dX7_reads_17 rfl (lv_at hl 1 rfl) ?_
      refine va_iald (cA := cI) (n := 59) (f := told) hx hb hK hP 2 0 rfl rfl ((kb.mk hlt2).in (by decide) (by decide)) dX7_reads_18 ?_
      refine va_iast (cA := cI) (n := 59) (f := y2_read) hx hb hK hP hD hS 3 0 rfl rfl ((kb.mk hlt2).in (by decide) (by decide)) dX7_reads_19 (fun H locs hP hD hS => ?_)
      have hP : va_P D vwCl (wM cI cZ u w told (upd y2_read ((nI i).toNatClampNeg) (told ((nI i).toNatClampNeg))) isK undoes text texted seen seS seB seP at_ start clauses number word) H := hP
      have hD : va_D A (wM cI cZ u w told (upd y2_read ((nI i).toNatClampNeg) (told ((nI i).toNatClampNeg))) isK undoes text texted seen seS seB seP at_ start clauses number word) := hD
      refine lv_iinc (v := (nI (i + 1))) (lv' := [(1, .int (nI (i + 1))), (0, .ref (u 0))]) hx hb dX7_reads_20 hl (k := 1) rfl (nI_1 i) (by decide) rfl (fun ls hl => ?_)
      refine lv_goto (tgt := 2) hx hb dX7_reads_23 (by decide) ?_
      have hb2 : nx_X7_reads_2 told i y2_read = (upd y2_read ((nI i).toNatClampNeg) (told ((nI i).toNatClampNeg))) := rfl
      have hs2 : (lp (fun iz z => nx_X7_reads_2 told iz z) read (i + 1) : (Nat → Int32)) = nx_X7_reads_2 told i (lp (fun iz z => nx_X7_reads_2 told iz z) read i : (Nat → Int32)) := lp_succ _ _ _
      rw [← ea2] at hs2
      exact ih2 (i + 1) (upd y2_read ((nI i).toNatClampNeg) (told ((nI i).toNatClampNeg))) (by omega) (hb2.symm.trans hs2.symm) _ _ _ hP hD hS (lv_sub hl [1, 0] rfl)
  exact lp2 59 0 read (Nat.zero_add _) (lp_zero _ _).symm _ _ _ hP hD hS (lv_sub hl [1, 0] rfl)
