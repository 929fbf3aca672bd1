def v_X7_next_89_0 (w : Nat → Int32) (told : Nat → Int32) (barber : Int32) (person : Int32) (i : Nat) (i1 : Nat) : Int32 := if (f_X7_has (f_X7_fitsOf w told 0 barber person) (nI i1)) = 0 then 0 else (if (f_X7_has (told ((51 + (nI i1)).toNatClampNeg)) (nI i)) = 0 then 0 else 1)
def nx_X7_next_70 (w : Nat → Int32) (told : Nat → Int32) (barber : Int32) (person : Int32) (i : Nat) (i1 : Nat) (x70_8 : Int32) : Int32 := (x70_8 + (v_X7_next_89_0 w told barber person i i1))
def x_X7_next_70 (w : Nat → Int32) (told : Nat → Int32) (barber : Int32) (person : Int32) (i : Nat) : Int32 := lp (fun iz z => nx_X7_next_70 w told barber person i iz z) 0 ((told 2).toNatClampNeg)
def v_X7_next_133_0 (w : Nat → Int32) (told : Nat → Int32) (barber : Int32) (person : Int32) (i : Nat) : Int32 := if (x_X7_next_70 w told barber person i) ≤ ((f_X7_many (f_X7_fitsOf w told 0 barber person)) - (x_X7_next_70 w told barber person i)) then ((f_X7_many (f_X7_fitsOf w told 0 barber person)) - (x_X7_next_70 w told barber person i)) else (x_X7_next_70 w told barber person i)
def v_X7_next_157_0 (w : Nat → Int32) (told : Nat → Int32) (barber : Int32) (person : Int32) (i : Nat) (x53_6 : Int32) : Int32 := if (f_X7_has (w (((37 + (6 * barber)) + person).toNatClampNeg)) (nI i)) = 0 then (if x53_6 ≤ (v_X7_next_133_0 w told barber person i) then 0 else 1) else 0
def v_X7_next_176_0 (w : Nat → Int32) (told : Nat → Int32) (barber : Int32) (person : Int32) (i : Nat) (x53_5 : Int32) (x53_6 : Int32) : Int32 := if (v_X7_next_157_0 w told barber person i x53_6) = 0 then x53_5 else (nI i)
def v_X7_next_190_0 (w : Nat → Int32) (told : Nat → Int32) (barber : Int32) (person : Int32) (i : Nat) (x53_6 : Int32) : Int32 := if (v_X7_next_157_0 w told barber person i x53_6) = 0 then x53_6 else (v_X7_next_133_0 w told barber person i)
def lo_X7_next_53 (w : Nat → Int32) (told : Nat → Int32) (barber : Int32) (person : Int32) : Nat → Nat → Int32 → Int32 → (Int32 × Int32)
  | 0, i, x53_5, x53_6 => (x53_5, x53_6)
  | k53 + 1, i, x53_5, x53_6 => if (f_X7_fitsOf w told 0 barber person) = 0 then (x53_5, x53_6) else (lo_X7_next_53 w told barber person k53 (i + 1) (v_X7_next_176_0 w told barber person i x53_5 x53_6) (v_X7_next_190_0 w told barber person i x53_6))
def x_X7_next_53 (w : Nat → Int32) (told : Nat → Int32) (barber : Int32) (person : Int32) : Int32 × Int32 := lo_X7_next_53 w told barber person 6 0 (-1) 9
def f_X7_next (w : Nat → Int32) (told : Nat → Int32) (barber : Int32) (person : Int32) : Int32 := if (f_X7_isBarber told barber) = 0 then (-2) else (if (f_X7_isPerson told person) = 0 then (-2) else ((x_X7_next_53 w told barber person).1))
abbrev rm_X7_next : Room := { frames := 2, cells := 0, slots := 0, locals := 48 }
set_option maxRecDepth 100000 in
set_option maxHeartbeats 4000000 in
theorem k_X7_next (l : Launch) (D : va_G) (cI cZ : ClassId) (u : Nat → Nat) (w : Nat → Int32) (told : Nat → Int32) (read : Nat → Int32) (isK : Nat → Int32) (undoes : Int32) (text : Nat → Int32) (texted : Int32) (seen : Int32) (seS : Nat → Int32) (seB : Nat → Int32) (seP : Nat → Int32) (at_ : Int32) (start : Int32) (clauses : Int32) (number : Int32) (word : Int64) (barber : Int32) (person : Int32) (hT0 : kb (told 0) 1 5) (hT1 : kb (told 1) 0 7) (hT2 : kb (told 2) 0 9) : CI l D (kTy cI cZ) kT yX7_next (.code yX7_next cX7_next 11 (some .int) :: wsL_law) rm_X7_next [.ref (u 0), .int barber, .int person] (wM cI cZ u w told read isK undoes text texted seen seS seB seP at_ start clauses number word) (wM cI cZ u w told read isK undoes text texted seen seS seB seP at_ start clauses number word) (f_X7_next w told barber person) := by
  refine CI.of (cc := cX7_next) (maxL := 11) (ty := .int) (by decide) rfl (Nat.le_of_ble_eq_true rfl) rfl ?_
  intro p e s m args below meth c A Q ls hx hb hml hts0 hown hA hP hK hD hE hl hret
  have hts : ∀ w ∈ wsL_law, w.before args s = true := fun w h => hts0 w (List.mem_cons_of_mem _ h)
  clear hts0
  have hown : s.vm.findClass RX7 = some m.cls := hown
  have hl : lv_has ls 11 [(0, .ref (u 0)), (1, .int barber), (2, .int person)] := hl
  have hS : va_S A s.heap s.heap [] := va_S.rf
  revert hP hS
  suffices hgo : ∀ (H : Heap) (locs : List Loc), va_P D vwCl (wM cI cZ u w told read isK undoes text texted seen seS seB seP at_ start clauses number word) H → va_S A s.heap H locs → W p l e rm_X7_next s m args below meth c H locs 0 0 Q (F0 m 0 ls []) from fun a b => hgo _ _ a b
  intro H locs hP hS
  refine lv_aload_n hx hb dX7_next_0 rfl (lv_at hl 0 rfl) ?_
  refine lv_iload_n hx hb dX7_next_1 rfl (lv_at hl 1 rfl) ?_
  refine kvi (As := [.int barber]) (rest := []) (q0 := 0) (ci := 7) ⟨hx, hb, hml, hown, hts⟩ hP hK hD hS hA hE (k_X7_isBarber l D cI cZ  u w told read isK undoes text texted seen seS seB seP at_ start clauses number word barber) (kcv hts kM_X7_isBarber (kin_21 _ (List.mem_of_getElem? (i := 8) rfl)) ⟨rfl, rfl⟩ ⟨Nat.le_of_ble_eq_true rfl, Nat.le_of_ble_eq_true rfl⟩) kBl_T kOk_T (wM cI cZ u w told read isK undoes text texted seen seS seB seP at_ start clauses number word) (cut_m_m cI cZ u w told read isK undoes text texted seen seS seB seP at_ start clauses number word w told read isK undoes text texted seen seS seB seP at_ start clauses number word).1 (cut_m_m cI cZ u w told read isK undoes text texted seen seS seB seP at_ start clauses number word w told read isK undoes text texted seen seS seB seP at_ start clauses number word).2 rfl rfl rfl rfl hl.1 rfl (Nat.le_of_ble_eq_true rfl) dX7_next_2 (fun H locs hP hD hS => ?_)
  refine lv_if_eq (tgt := 16) hx hb dX7_next_5 (by decide) (fun c_5 => ?_) (fun c_5 => ?_)
  · skip
    refine lv_bipush (v := (-2)) hx hb dX7_next_16 (by decide) ?_
    have hf : (f_X7_next w told barber person) = (-2) := (if_pos c_5)
    rw [hf] at hret
    exact hret _ _ _ _ hP hS dX7_next_18
  · skip
    refine lv_aload_n hx hb dX7_next_8 rfl (lv_at hl 0 rfl) ?_
    refine lv_iload_n hx hb dX7_next_9 rfl (lv_at hl 2 rfl) ?_
    refine kvi (As := [.int person]) (rest := []) (q0 := 0) (ci := 7) ⟨hx, hb, hml, hown, hts⟩ hP hK hD hS hA hE (k_X7_isPerson l D cI cZ  u w told read isK undoes text texted seen seS seB seP at_ start clauses number word person) (kcv hts kM_X7_isPerson (kin_18 _ (List.mem_of_getElem? (i := 6) rfl)) ⟨rfl, rfl⟩ ⟨Nat.le_of_ble_eq_true rfl, Nat.le_of_ble_eq_true rfl⟩) kBl_T kOk_T (wM cI cZ u w told read isK undoes text texted seen seS seB seP at_ start clauses number word) (cut_m_m cI cZ u w told read isK undoes text texted seen seS seB seP at_ start clauses number word w told read isK undoes text texted seen seS seB seP at_ start clauses number word).1 (cut_m_m cI cZ u w told read isK undoes text texted seen seS seB seP at_ start clauses number word w told read isK undoes text texted seen seS seB seP at_ start clauses number word).2 rfl rfl rfl rfl hl.1 rfl (Nat.le_of_ble_eq_true rfl) dX7_next_10 (fun H locs hP hD hS => ?_)
    refine lv_if_ne (tgt := 19) hx hb dX7_next_13 (by decide) (fun c_13 => ?_) (fun c_13 => ?_)
    · skip
      refine lv_aload_n hx hb dX7_next_19 rfl (lv_at hl 0 rfl) ?_
      refine lv_iconst (v := 0) hx hb dX7_next_20 (by decide) ?_
      refine lv_iload_n hx hb dX7_next_21 rfl (lv_at hl 1 rfl) ?_
      refine lv_iload_n hx hb dX7_next_22 rfl (lv_at hl 2 rfl) ?_
      refine kvi (As := [.int 0, .int barber, .int person]) (rest := []) (q0 := 0) (ci := 7) ⟨hx, hb, hml, hown, hts⟩ hP hK hD hS hA hE (k_X7_fitsOf l D cI cZ  u w told read isK undoes text texted seen seS seB seP at_ start clauses number word 0 barber person ((kb.lit 0).wide (by decide) (by decide)) ((kperson hT0 (by decide) c_5).wide (by decide) (by decide)) ((kperson hT1 (by decide) c_13).wide (by decide) (by decide)) (hT2.wide (by decide) (by decide))) (kcv hts kM_X7_fitsOf (kin_21 _ (List.mem_of_getElem? (i := 12) rfl)) ⟨rfl, rfl⟩ ⟨Nat.le_of_ble_eq_true rfl, Nat.le_of_ble_eq_true rfl⟩) kBl_T kOk_T (wM cI cZ u w told read isK undoes text texted seen seS seB seP at_ start clauses number word) (cut_m_m cI cZ u w told read isK undoes text texted seen seS seB seP at_ start clauses number word w told read isK undoes text texted seen seS seB seP at_ start clauses number word).1 (cut_m_m cI cZ u w told read isK undoes text texted seen seS seB seP at_ start clauses number word w told read isK undoes text texted seen seS seB seP at_ start clauses number word).2 rfl rfl rfl rfl hl.1 rfl (Nat.le_of_ble_eq_true rfl) dX7_next_23 (fun H locs hP hD hS => ?_)
      refine lv_istore_n (lv' := [(3, .int (f_X7_fitsOf w told 0 barber person)), (0, .ref (u 0)), (1, .int barber), (2, .int person)]) hx hb dX7_next_26 rfl hl (by decide) rfl (fun ls hl => ?_)
      refine lv_aload_n hx hb dX7_next_27 rfl (lv_at hl 1 rfl) ?_
      refine va_get (D := D) (ci := 7) (v := .ref (u 1)) (C := RX7) (T := TX7) (N := 16) hx hb hts inlX7 hown hK hP 0 rfl rfl 0 (by decide) (kw hts kin_4 22 rfl) (fun _ h9 => h9) rfl dX7_next_28 ?_
      refine lv_bipush (v := 37) hx hb dX7_next_31 (by decide) ?_
      refine lv_bipush (v := 6) hx hb dX7_next_33 (by decide) ?_
      refine lv_iload_n hx hb dX7_next_35 rfl (lv_at hl 2 rfl) ?_
      refine lv_imul hx hb dX7_next_36 ?_
      refine lv_iadd hx hb dX7_next_37 ?_
      refine lv_iload_n hx hb dX7_next_38 rfl (lv_at hl 3 rfl) ?_
      refine lv_iadd hx hb dX7_next_39 ?_
      refine va_iald (cA := cI) (n := 1020) (f := w) hx hb hK hP 1 0 rfl rfl ((kb.add (kb.add (kb.lit 37) (kb.mul (c := 6) rfl (kperson hT0 (by decide) c_5))) (kperson hT1 (by decide) c_13)).in (by decide) (by decide)) dX7_next_40 ?_
      refine lv_istore (lv' := [(4, .int (w (((37 + (6 * barber)) + person).toNatClampNeg))), (3, .int (f_X7_fitsOf w told 0 barber person)), (0, .ref (u 0)), (1, .int barber), (2, .int person)]) hx hb dX7_next_41 hl (by decide) rfl (fun ls hl => ?_)
      refine lv_iconst (v := (-1)) hx hb dX7_next_43 (by decide) ?_
      refine lv_istore (lv' := [(5, .int (-1)), (4, .int (w (((37 + (6 * barber)) + person).toNatClampNeg))), (3, .int (f_X7_fitsOf w told 0 barber person)), (0, .ref (u 0)), (1, .int barber), (2, .int person)]) hx hb dX7_next_44 hl (by decide) rfl (fun ls hl => ?_)
      refine lv_bipush (v := 9) hx hb dX7_next_46 (by decide) ?_
      refine lv_istore (lv' := [(6, .int 9), (5, .int (-1)), (4, .int (w (((37 + (6 * barber)) + person).toNatClampNeg))), (3, .int (f_X7_fitsOf w told 0 barber person)), (0, .ref (u 0)), (1, .int barber), (2, .int person)]) hx hb dX7_next_48 hl (by decide) rfl (fun ls hl => ?_)
      refine lv_iconst (v := 0) hx hb dX7_next_50 (by decide) ?_
      refine lv_istore (lv' := [(7, .int 0), (6, .int 9), (5, .int (-1)), (4, .int (w (((37 + (6 * barber)) + person).toNatClampNeg))), (3, .int (f_X7_fitsOf w told 0 barber person)), (0, .ref (u 0)), (1, .int barber), (2, .int person)]) hx hb dX7_next_51 hl (by decide) rfl (fun ls hl => ?_)
      have K53 : ∀ (H : Heap) (locs : List Loc) (ls : Array Slot), va_P D vwCl (wM cI cZ u w told read isK undoes text texted seen seS seB seP at_ start clauses number word) H → va_D A (wM cI cZ u w told read isK undoes text texted seen seS seB seP at_ start clauses number word) → va_S A s.heap H locs → lv_has ls 11 [(0, .ref (u 0)), (1, .int barber), (2, .int person), (3, .int (f_X7_fitsOf w told 0 barber person)), (4, .int (w (((37 + (6 * barber)) + person).toNatClampNeg))), (5, .int ((x_X7_next_53 w told barber person).1)), (6, .int ((x_X7_next_53 w told barber person).2))] → W p l e rm_X7_next s m args below meth c H locs 0 0 Q (F0 m 208 ls []) := by
        intro H locs ls hP hD hS hl
        refine lv_iload hx hb dX7_next_208 (lv_at hl 5 rfl) ?_
        have hf : (f_X7_next w told barber person) = ((x_X7_next_53 w told barber person).1) := ((if_neg c_5).trans (if_neg c_13))
        rw [hf] at hret
        exact hret _ _ _ _ hP hS dX7_next_210
      have lp53 : ∀ (k53 i : Nat) (x53_5 : Int32) (x53_6 : Int32), i + k53 = 6 → lo_X7_next_53 w told barber person k53 i x53_5 x53_6 = (x_X7_next_53 w told barber person) → ∀ (H : Heap) (locs : List Loc) (ls : Array Slot), va_P D vwCl (wM cI cZ u w told read isK undoes text texted seen seS seB seP at_ start clauses number word) H → va_D A (wM cI cZ u w told read isK undoes text texted seen seS seB seP at_ start clauses number word) → va_S A s.heap H locs → lv_has ls 11 [(0, .ref (u 0)), (1, .int barber), (2, .int person), (3, .int (f_X7_fitsOf w told 0 barber person)), (4, .int (w (((37 + (6 * barber)) + person).toNatClampNeg))), (5, .int x53_5), (6, .int x53_6), (7, .int (nI i))] → W p l e rm_X7_next s m args below meth c H locs 0 0 Q (F0 m 53 ls []) := by
        intro k53
        induction k53 with
        | zero =>
          intro i x53_5 x53_6 hi53 ea53 H locs ls hP hD hS hl
          have hi53 : 6 = i := by omega
          subst hi53
          refine lv_iload hx hb dX7_next_53 (lv_at hl 7 rfl) ?_
          refine lv_bipush (v := 6) hx hb dX7_next_55 (by decide) ?_
          refine lv_icmp_ge (tgt := 208) hx hb dX7_next_57 (by decide) (fun _ => ?_) (fun c_57 => absurd (nI_le (Nat.le_refl _) (by decide)) c_57)
          have hx53 : (x_X7_next_53 w told barber person) = (x53_5, x53_6) := (ea53).symm.trans rfl
          rw [show ((x_X7_next_53 w told barber person).1) = x53_5 from (kpf hx53)] at K53
          rw [show ((x_X7_next_53 w told barber person).2) = x53_6 from (id (kps hx53))] at K53
          exact K53 _ _ _ hP hD hS (lv_sub hl [0, 1, 2, 3, 4, 5, 6] rfl)
        | succ k53 ih53 =>
          intro i x53_5 x53_6 hi53 ea53 H locs ls hP hD hS hl
          have hlt53 : i < 6 := by omega
          refine lv_iload hx hb dX7_next_53 (lv_at hl 7 rfl) ?_
          refine lv_bipush (v := 6) hx hb dX7_next_55 (by decide) ?_
          refine lv_icmp_ge (tgt := 208) hx hb dX7_next_57 (by decide) (fun c_57 => absurd c_57 (nI_ge hlt53 (by decide))) (fun _ => ?_)
          refine lv_iload_n hx hb dX7_next_60 rfl (lv_at hl 3 rfl) ?_
          refine lv_if_eq (tgt := 208) hx hb dX7_next_61 (by decide) (fun c_61 => ?_) (fun c_61 => ?_)
          · skip
            have hx53 : (x_X7_next_53 w told barber person) = (x53_5, x53_6) := (ea53).symm.trans (if_pos c_61)
            rw [show ((x_X7_next_53 w told barber person).1) = x53_5 from (kpf hx53)] at K53
            rw [show ((x_X7_next_53 w told barber person).2) = x53_6 from (id (kps hx53))] at K53
            exact K53 _ _ _ hP hD hS (lv_sub hl [0, 1, 2, 3, 4, 5, 6] rfl)
          · skip
            refine lv_iconst (v := 0) hx hb dX7_next_64 (by decide) ?_
            refine lv_istore (lv' := [(8, .int 0), (0, .ref (u 0)), (1, .int barber), (2, .int person), (3, .int (f_X7_fitsOf w told 0 barber person)), (4, .int (w (((37 + (6 * barber)) + person).toNatClampNeg))), (5, .int x53_5), (6, .int x53_6), (7, .int (nI i))]) hx hb dX7_next_65 hl (by decide) rfl (fun ls hl => ?_)
            refine lv_iconst (v := 0) hx hb dX7_next_67 (by decide) ?_
            refine lv_istore (lv' := [(9, .int 0), (8, .int 0), (0, .ref (u 0)), (1, .int barber), (2, .int person), (3, .int (f_X7_fitsOf w told 0 barber person)), (4, .int (w (((37 + (6 * barber)) + person).toNatClampNeg))), (5, .int x53_5), (6, .int x53_6), (7, .int (nI i))]) hx hb dX7_next_68 hl (by decide) rfl (fun ls hl => ?_)
            have lp70 : ∀ (k70 i1 : Nat) (x70_8 : Int32), i1 + k70 = (told 2).toNatClampNeg → x70_8 = lp (fun iz z => nx_X7_next_70 w told barber person i iz z) 0 i1 → ∀ (H : Heap) (locs : List Loc) (ls : Array Slot), va_P D vwCl (wM cI cZ u w told read isK undoes text texted seen seS seB seP at_ start clauses number word) H → va_D A (wM cI cZ u w told read isK undoes text texted seen seS seB seP at_ start clauses number word) → va_S A s.heap H locs → lv_has ls 11 [(0, .ref (u 0)), (1, .int barber), (2, .int person), (3, .int (f_X7_fitsOf w told 0 barber person)), (4, .int (w (((37 + (6 * barber)) + person).toNatClampNeg))), (5, .int x53_5), (6, .int x53_6), (7, .int (nI i)), (8, .int x70_8), (9, .int (nI i1))] → W p l e rm_X7_next s m args below meth c H locs 0 0 Q (F0 m 70 ls []) := by
              intro k70
              induction k70 with
              | zero =>
                intro i1 x70_8 hi70 ea70 H locs ls hP hD hS hl
                have hi70 : (told 2).toNatClampNeg = i1 := by omega
                subst hi70
                have ea70 : x70_8 = (x_X7_next_70 w told barber person i) := ea70
                subst ea70
                refine lv_iload hx hb dX7_next_70 (lv_at hl 9 rfl) ?_
                refine lv_aload_n hx hb dX7_next_72 rfl (lv_at hl 0 rfl) ?_
                refine va_get (D := D) (ci := 7) (v := .ref (u 2)) (C := RX7) (T := TX7) (N := 16) hx hb hts inlX7 hown hK hP 0 rfl rfl 1 (by decide) (kw hts kin_4 23 rfl) (fun _ h9 => h9) rfl dX7_next_73 ?_
                refine lv_iconst (v := 2) hx hb dX7_next_76 (by decide) ?_
                refine va_iald (cA := cI) (n := 59) (f := told) hx hb hK hP 2 0 rfl rfl ((kb.lit 2).in (by decide) (by decide)) dX7_next_77 ?_
                show W p l e rm_X7_next s m args below meth c H locs 0 0 Q (F0 m 78 ls [.int (told 2), .int (nI ((told 2).toNatClampNeg))])
                refine lv_icmp_ge (tgt := 124) hx hb dX7_next_78 (by decide) (fun _ => ?_) (fun c_78 => absurd (kle_clamp _) c_78)
                refine lv_iload hx hb dX7_next_124 (lv_at hl 8 rfl) ?_
                refine lv_iload_n hx hb dX7_next_126 rfl (lv_at hl 3 rfl) ?_
                refine ksi (As := [.int (f_X7_fitsOf w told 0 barber person)]) (rest := [.int (x_X7_next_70 w told barber person i)]) ⟨hx, hb, hml, hown, hts⟩ hP hK hD hS hA hE (k_X7_many l D cI cZ  (f_X7_fitsOf w told 0 barber person)) (kcs hts kM_X7_many (kin_29 _ (List.mem_of_getElem? (i := 16) rfl)) ⟨rfl, rfl⟩ ⟨Nat.le_of_ble_eq_true rfl, Nat.le_of_ble_eq_true rfl⟩) kBl_T kOk_T rfl hl.1 rfl (Nat.le_of_ble_eq_true rfl) dX7_next_127 (fun H locs hP hD hS => ?_)
                refine lv_iload hx hb dX7_next_130 (lv_at hl 8 rfl) ?_
                refine lv_isub hx hb dX7_next_132 ?_
                have J133 : ∀ (H : Heap) (locs : List Loc) (ls : Array Slot), va_P D vwCl (wM cI cZ u w told read isK undoes text texted seen seS seB seP at_ start clauses number word) H → va_D A (wM cI cZ u w told read isK undoes text texted seen seS seB seP at_ start clauses number word) → va_S A s.heap H locs → lv_has ls 11 [(0, .ref (u 0)), (1, .int barber), (2, .int person), (3, .int (f_X7_fitsOf w told 0 barber person)), (4, .int (w (((37 + (6 * barber)) + person).toNatClampNeg))), (5, .int x53_5), (6, .int x53_6), (7, .int (nI i)), (8, .int (x_X7_next_70 w told barber person i)), (9, .int (nI ((told 2).toNatClampNeg)))] → W p l e rm_X7_next s m args below meth c H locs 0 0 Q (F0 m 148 ls [.int (v_X7_next_133_0 w told barber person i)]) := by
                  intro H locs ls hP hD hS hl
                  refine lv_istore (lv' := [(9, .int (v_X7_next_133_0 w told barber person i)), (0, .ref (u 0)), (1, .int barber), (2, .int person), (3, .int (f_X7_fitsOf w told 0 barber person)), (4, .int (w (((37 + (6 * barber)) + person).toNatClampNeg))), (5, .int x53_5), (6, .int x53_6), (7, .int (nI i)), (8, .int (x_X7_next_70 w told barber person i))]) hx hb dX7_next_148 hl (by decide) rfl (fun ls hl => ?_)
                  refine lv_iload hx hb dX7_next_150 (lv_at hl 5 rfl) ?_
                  refine lv_iload hx hb dX7_next_152 (lv_at hl 8 rfl) ?_
                  refine ksi (As := [.int (w (((37 + (6 * barber)) + person).toNatClampNeg)), .int (nI i)]) (rest := []) ⟨hx, hb, hml, hown, hts⟩ hP hK hD hS hA hE (k_X7_has l D cI cZ  (w (((37 + (6 * barber)) + person).toNatClampNeg)) (nI i)) (kcs hts kM_X7_has (kin_29 _ (List.mem_of_getElem? (i := 13) rfl)) ⟨rfl, rfl⟩ ⟨Nat.le_of_ble_eq_true rfl, Nat.le_of_ble_eq_true rfl⟩) kBl_T kOk_T rfl hl.1 rfl (Nat.le_of_ble_eq_true rfl) dX7_next_154 (fun H locs hP hD hS => ?_)
                  have J157 : ∀ (H : Heap) (locs : List Loc) (ls : Array Slot), va_P D vwCl (wM cI cZ u w told read isK undoes text texted seen seS seB seP at_ start clauses number word) H → va_D A (wM cI cZ u w told read isK undoes text texted seen seS seB seP at_ start clauses number word) → va_S A s.heap H locs → lv_has ls 11 [(0, .ref (u 0)), (1, .int barber), (2, .int person), (3, .int (f_X7_fitsOf w told 0 barber person)), (4, .int (w (((37 + (6 * barber)) + person).toNatClampNeg))), (5, .int x53_5), (6, .int x53_6), (7, .int (nI i)), (8, .int (x_X7_next_70 w told barber person i)), (9, .int (v_X7_next_133_0 w told barber person i))] → W p l e rm_X7_next s m args below meth c H locs 0 0 Q (F0 m 172 ls [.int (v_X7_next_157_0 w told barber person i x53_6)]) := by
                    intro H locs ls hP hD hS hl
                    refine lv_istore (lv' := [(10, .int (v_X7_next_157_0 w told barber person i x53_6)), (0, .ref (u 0)), (1, .int barber), (2, .int person), (3, .int (f_X7_fitsOf w told 0 barber person)), (4, .int (w (((37 + (6 * barber)) + person).toNatClampNeg))), (5, .int x53_5), (6, .int x53_6), (7, .int (nI i)), (8, .int (x_X7_next_70 w told barber person i)), (9, .int (v_X7_next_133_0 w told barber person i))]) hx hb dX7_next_172 hl (by decide) rfl (fun ls hl => ?_)
                    refine lv_iload hx hb dX7_next_174 (lv_at hl 0 rfl) ?_
                    have J176 : ∀ (H : Heap) (locs : List Loc) (ls : Array Slot), va_P D vwCl (wM cI cZ u w told read isK undoes text texted seen seS seB seP at_ start clauses number word) H → va_D A (wM cI cZ u w told read isK undoes text texted seen seS seB seP at_ start clauses number word) → va_S A s.heap H locs → lv_has ls 11 [(0, .ref (u 0)), (1, .int barber), (2, .int person), (3, .int (f_X7_fitsOf w told 0 barber person)), (4, .int (w (((37 + (6 * barber)) + person).toNatClampNeg))), (5, .int x53_5), (6, .int x53_6), (7, .int (nI i)), (8, .int (x_X7_next_70 w told barber person i)), (9, .int (v_X7_next_133_0 w told barber person i)), (10, .int (v_X7_next_157_0 w told barber person i x53_6))] → W p l e rm_X7_next s m args below meth c H locs 0 0 Q (F0 m 186 ls [.int (v_X7_next_176_0 w told barber person i x53_5 x53_6)]) := by
                      intro H locs ls hP hD hS hl
                      refine lv_istore (lv' := [(5, .int (v_X7_next_176_0 w told barber person i x53_5 x53_6)), (0, .ref (u 0)), (1, .int barber), (2, .int person), (3, .int (f_X7_fitsOf w told 0 barber person)), (4, .int (w (((37 + (6 * barber)) + person).toNatClampNeg))), (6, .int x53_6), (7, .int (nI i)), (8, .int (x_X7_next_70 w told barber person i)), (9, .int (v_X7_next_133_0 w told barber person i)), (10, .int (v_X7_next_157_0 w told barber person i x53_6))]) hx hb dX7_next_186 hl (by decide) rfl (fun ls hl => ?_)
                      refine lv_iload hx hb dX7_next_188 (lv_at hl 10 rfl) ?_
                      have J190 : ∀ (H : Heap) (locs : List Loc) (ls : Array Slot), va_P D vwCl (wM cI cZ u w told read isK undoes text texted seen seS seB seP at_ start clauses number word) H → va_D A (wM cI cZ u w told read isK undoes text texted seen seS seB seP at_ start clauses number word) → va_S A s.heap H locs → lv_has ls 11 [(0, .ref (u 0)), (1, .int barber), (2, .int person), (3, .int (f_X7_fitsOf w told 0 barber person)), (4, .int (w (((37 + (6 * barber)) + person).toNatClampNeg))), (5, .int (v_X7_next_176_0 w told barber person i x53_5 x53_6)), (6, .int x53_6), (7, .int (nI i)), (8, .int (x_X7_next_70 w told barber person i)), (9, .int (v_X7_next_133_0 w told barber person i)), (10, .int (v_X7_next_157_0 w told barber person i x53_6))] → W p l e rm_X7_next s m args below meth c H locs 0 0 Q (F0 m 200 ls [.int (v_X7_next_190_0 w told barber person i x53_6)]) := by
                        intro H locs ls hP hD hS hl
                        refine lv_istore (lv' := [(6, .int (v_X7_next_190_0 w told barber person i x53_6)), (0, .ref (u 0)), (1, .int barber), (2, .int person), (3, .int (f_X7_fitsOf w told 0 barber person)), (4, .int (w (((37 + (6 * barber)) + person).toNatClampNeg))), (5, .int (v_X7_next_176_0 w told barber person i x53_5 x53_6)), (7, .int (nI i)), (8, .int (x_X7_next_70 w told barber person i)), (9, .int (v_X7_next_133_0 w told barber person i)), (10, .int (v_X7_next_157_0 w told barber person i x53_6))]) hx hb dX7_next_200 hl (by decide) rfl (fun ls hl => ?_)
                        refine lv_iinc (v := (nI (i + 1))) (lv' := [(7, .int (nI (i + 1))), (6, .int (v_X7_next_190_0 w told barber person i x53_6)), (0, .ref (u 0)), (1, .int barber), (2, .int person), (3, .int (f_X7_fitsOf w told 0 barber person)), (4, .int (w (((37 + (6 * barber)) + person).toNatClampNeg))), (5, .int (v_X7_next_176_0 w told barber person i x53_5 x53_6)), (8, .int (x_X7_next_70 w told barber person i)), (9, .int (v_X7_next_133_0 w told barber person i)), (10, .int (v_X7_next_157_0 w told barber person i x53_6))]) hx hb dX7_next_202 hl (k := 7) rfl (nI_1 i) (by decide) rfl (fun ls hl => ?_)
                        refine lv_goto (tgt := 53) hx hb dX7_next_205 (by decide) ?_
                        have hb53 : lo_X7_next_53 w told barber person (k53 + 1) i x53_5 x53_6 = lo_X7_next_53 w told barber person k53 (i + 1) (v_X7_next_176_0 w told barber person i x53_5 x53_6) (v_X7_next_190_0 w told barber person i x53_6) := (if_neg c_61)
                        exact ih53 (i + 1) (v_X7_next_176_0 w told barber person i x53_5 x53_6) (v_X7_next_190_0 w told barber person i x53_6) (by omega) (hb53.symm.trans ea53) _ _ _ hP hD hS (lv_sub hl [2, 3, 4, 5, 6, 7, 1, 0] rfl)
                      refine lv_if_eq (tgt := 198) hx hb dX7_next_190 (by decide) (fun c_190 => ?_) (fun c_190 => ?_)
                      · skip
                        refine lv_iload hx hb dX7_next_198 (lv_at hl 6 rfl) ?_
                        rw [show (v_X7_next_190_0 w told barber person i x53_6) = x53_6 from (if_pos c_190)] at J190
                        exact J190 _ _ _ hP hD hS (lv_sub hl [1, 2, 3, 4, 5, 0, 6, 7, 8, 9, 10] rfl)
                      · skip
                        refine lv_iload hx hb dX7_next_193 (lv_at hl 9 rfl) ?_
                        refine lv_goto (tgt := 200) hx hb dX7_next_195 (by decide) ?_
                        rw [show (v_X7_next_190_0 w told barber person i x53_6) = (v_X7_next_133_0 w told barber person i) from (if_neg c_190)] at J190
                        exact J190 _ _ _ hP hD hS (lv_sub hl [1, 2, 3, 4, 5, 0, 6, 7, 8, 9, 10] rfl)
                    refine lv_if_eq (tgt := 184) hx hb dX7_next_176 (by decide) (fun c_176 => ?_) (fun c_176 => ?_)
                    · skip
                      refine lv_iload hx hb dX7_next_184 (lv_at hl 6 rfl) ?_
                      rw [show (v_X7_next_176_0 w told barber person i x53_5 x53_6) = x53_5 from (if_pos c_176)] at J176
                      exact J176 _ _ _ hP hD hS (lv_sub hl [1, 2, 3, 4, 5, 6, 7, 8, 9, 10, 0] rfl)
                    · skip
                      refine lv_iload hx hb dX7_next_179 (lv_at hl 8 rfl) ?_
                      refine lv_goto (tgt := 186) hx hb dX7_next_181 (by decide) ?_
                      rw [show (v_X7_next_176_0 w told barber person i x53_5 x53_6) = (nI i) from (if_neg c_176)] at J176
                      exact J176 _ _ _ hP hD hS (lv_sub hl [1, 2, 3, 4, 5, 6, 7, 8, 9, 10, 0] rfl)
                  refine lv_if_ne (tgt := 171) hx hb dX7_next_157 (by decide) (fun c_157 => ?_) (fun c_157 => ?_)
                  · skip
                    refine lv_iconst (v := 0) hx hb dX7_next_171 (by decide) ?_
                    rw [show (v_X7_next_157_0 w told barber person i x53_6) = 0 from (if_neg c_157)] at J157
                    exact J157 _ _ _ hP hD hS (lv_sub hl [1, 2, 3, 4, 5, 6, 7, 8, 9, 0] rfl)
                  · skip
                    refine lv_iload hx hb dX7_next_160 (lv_at hl 0 rfl) ?_
                    refine lv_iload hx hb dX7_next_162 (lv_at hl 7 rfl) ?_
                    refine lv_icmp_ge (tgt := 171) hx hb dX7_next_164 (by decide) (fun c_164 => ?_) (fun c_164 => ?_)
                    · skip
                      refine lv_iconst (v := 0) hx hb dX7_next_171 (by decide) ?_
                      rw [show (v_X7_next_157_0 w told barber person i x53_6) = 0 from ((if_pos c_157).trans (if_pos c_164))] at J157
                      exact J157 _ _ _ hP hD hS (lv_sub hl [1, 2, 3, 4, 5, 6, 7, 8, 9, 0] rfl)
                    · skip
                      refine lv_iconst (v := 1) hx hb dX7_next_167 (by decide) ?_
                      refine lv_goto (tgt := 172) hx hb dX7_next_168 (by decide) ?_
                      rw [show (v_X7_next_157_0 w told barber person i x53_6) = 1 from ((if_pos c_157).trans (if_neg c_164))] at J157
                      exact J157 _ _ _ hP hD hS (lv_sub hl [1, 2, 3, 4, 5, 6, 7, 8, 9, 0] rfl)
                refine lv_icmp_le (tgt := 141) hx hb dX7_next_133 (by decide) (fun c_133 => ?_) (fun c_133 => ?_)
                · skip
                  refine lv_iload_n hx hb dX7_next_141 rfl (lv_at hl 3 rfl) ?_
                  refine ksi (As := [.int (f_X7_fitsOf w told 0 barber person)]) (rest := []) ⟨hx, hb, hml, hown, hts⟩ hP hK hD hS hA hE (k_X7_many l D cI cZ  (f_X7_fitsOf w told 0 barber person)) (kcs hts kM_X7_many (kin_29 _ (List.mem_of_getElem? (i := 16) rfl)) ⟨rfl, rfl⟩ ⟨Nat.le_of_ble_eq_true rfl, Nat.le_of_ble_eq_true rfl⟩) kBl_T kOk_T rfl hl.1 rfl (Nat.le_of_ble_eq_true rfl) dX7_next_142 (fun H locs hP hD hS => ?_)
                  refine lv_iload hx hb dX7_next_145 (lv_at hl 8 rfl) ?_
                  refine lv_isub hx hb dX7_next_147 ?_
                  rw [show (v_X7_next_133_0 w told barber person i) = ((f_X7_many (f_X7_fitsOf w told 0 barber person)) - (x_X7_next_70 w told barber person i)) from (if_pos c_133)] at J133
                  exact J133 _ _ _ hP hD hS (lv_sub hl [0, 1, 2, 3, 4, 5, 6, 7, 8, 9] rfl)
                · skip
                  refine lv_iload hx hb dX7_next_136 (lv_at hl 8 rfl) ?_
                  refine lv_goto (tgt := 148) hx hb dX7_next_138 (by decide) ?_
                  rw [show (v_X7_next_133_0 w told barber person i) = (x_X7_next_70 w told barber person i) from (if_neg c_133)] at J133
                  exact J133 _ _ _ hP hD hS (lv_sub hl [0, 1, 2, 3, 4, 5, 6, 7, 8, 9] rfl)
              | succ k70 ih70 =>
                intro i1 x70_8 hi70 ea70 H locs ls hP hD hS hl
                have hlt70 : i1 < (told 2).toNatClampNeg := by omega
                refine lv_iload hx hb dX7_next_70 (lv_at hl 9 rfl) ?_
                refine lv_aload_n hx hb dX7_next_72 rfl (lv_at hl 0 rfl) ?_
                refine va_get (D := D) (ci := 7) (v := .ref (u 2)) (C := RX7) (T := TX7) (N := 16) hx hb hts inlX7 hown hK hP 0 rfl rfl 1 (by decide) (kw hts kin_4 23 rfl) (fun _ h9 => h9) rfl dX7_next_73 ?_
                refine lv_iconst (v := 2) hx hb dX7_next_76 (by decide) ?_
                refine va_iald (cA := cI) (n := 59) (f := told) hx hb hK hP 2 0 rfl rfl ((kb.lit 2).in (by decide) (by decide)) dX7_next_77 ?_
                show W p l e rm_X7_next s m args below meth c H locs 0 0 Q (F0 m 78 ls [.int (told 2), .int (nI i1)])
                refine lv_icmp_ge (tgt := 124) hx hb dX7_next_78 (by decide) (fun c_78 => absurd c_78 (klt_clamp hlt70)) (fun _ => ?_)
                refine lv_iload hx hb dX7_next_81 (lv_at hl 8 rfl) ?_
                refine lv_iload_n hx hb dX7_next_83 rfl (lv_at hl 3 rfl) ?_
                refine lv_iload hx hb dX7_next_84 (lv_at hl 9 rfl) ?_
                refine ksi (As := [.int (f_X7_fitsOf w told 0 barber person), .int (nI i1)]) (rest := [.int x70_8]) ⟨hx, hb, hml, hown, hts⟩ hP hK hD hS hA hE (k_X7_has l D cI cZ  (f_X7_fitsOf w told 0 barber person) (nI i1)) (kcs hts kM_X7_has (kin_29 _ (List.mem_of_getElem? (i := 13) rfl)) ⟨rfl, rfl⟩ ⟨Nat.le_of_ble_eq_true rfl, Nat.le_of_ble_eq_true rfl⟩) kBl_T kOk_T rfl hl.1 rfl (Nat.le_of_ble_eq_true rfl) dX7_next_86 (fun H locs hP hD hS => ?_)
                have J89 : ∀ (H : Heap) (locs : List Loc) (ls : Array Slot), va_P D vwCl (wM cI cZ u w told read isK undoes text texted seen seS seB seP at_ start clauses number word) H → va_D A (wM cI cZ u w told read isK undoes text texted seen seS seB seP at_ start clauses number word) → va_S A s.heap H locs → lv_has ls 11 [(0, .ref (u 0)), (1, .int barber), (2, .int person), (3, .int (f_X7_fitsOf w told 0 barber person)), (4, .int (w (((37 + (6 * barber)) + person).toNatClampNeg))), (5, .int x53_5), (6, .int x53_6), (7, .int (nI i)), (8, .int x70_8), (9, .int (nI i1))] → W p l e rm_X7_next s m args below meth c H locs 0 0 Q (F0 m 115 ls [.int (v_X7_next_89_0 w told barber person i i1), .int x70_8]) := by
                  intro H locs ls hP hD hS hl
                  refine lv_iadd hx hb dX7_next_115 ?_
                  refine lv_istore (lv' := [(8, .int (x70_8 + (v_X7_next_89_0 w told barber person i i1))), (0, .ref (u 0)), (1, .int barber), (2, .int person), (3, .int (f_X7_fitsOf w told 0 barber person)), (4, .int (w (((37 + (6 * barber)) + person).toNatClampNeg))), (5, .int x53_5), (6, .int x53_6), (7, .int (nI i)), (9, .int (nI i1))]) hx hb dX7_next_116 hl (by decide) rfl (fun ls hl => ?_)
                  refine lv_iinc (v := (nI (i1 + 1))) (lv' := [(9, .int (nI (i1 + 1))), (8, .int (x70_8 + (v_X7_next_89_0 w told barber person i i1))), (0, .ref (u 0)), (1, .int barber), (2, .int person), (3, .int (f_X7_fitsOf w told 0 barber person)), (4, .int (w (((37 + (6 * barber)) + person).toNatClampNeg))), (5, .int x53_5), (6, .int x53_6), (7, .int (nI i))]) hx hb dX7_next_118 hl (k := 9) rfl (nI_1 i1) (by decide) rfl (fun ls hl => ?_)
                  refine lv_goto (tgt := 70) hx hb dX7_next_121 (by decide) ?_
                  have hb70 : nx_X7_next_70 w told barber person i i1 x70_8 = (x70_8 + (v_X7_next_89_0 w told barber person i i1)) := rfl
                  have hs70 : (lp (fun iz z => nx_X7_next_70 w told barber person i iz z) 0 (i1 + 1) : Int32) = nx_X7_next_70 w told barber person i i1 (lp (fun iz z => nx_X7_next_70 w told barber person i iz z) 0 i1 : Int32) := lp_succ _ _ _
                  rw [← ea70] at hs70
                  exact ih70 (i1 + 1) (x70_8 + (v_X7_next_89_0 w told barber person i i1)) (by omega) (hb70.symm.trans hs70.symm) _ _ _ hP hD hS (lv_sub hl [2, 3, 4, 5, 6, 7, 8, 9, 1, 0] rfl)
                refine lv_if_eq (tgt := 114) hx hb dX7_next_89 (by decide) (fun c_89 => ?_) (fun c_89 => ?_)
                · skip
                  refine lv_iconst (v := 0) hx hb dX7_next_114 (by decide) ?_
                  rw [show (v_X7_next_89_0 w told barber person i i1) = 0 from (if_pos c_89)] at J89
                  exact J89 _ _ _ hP hD hS (lv_sub hl [0, 1, 2, 3, 4, 5, 6, 7, 8, 9] rfl)
                · skip
                  refine lv_aload_n hx hb dX7_next_92 rfl (lv_at hl 0 rfl) ?_
                  refine va_get (D := D) (ci := 7) (v := .ref (u 2)) (C := RX7) (T := TX7) (N := 16) hx hb hts inlX7 hown hK hP 0 rfl rfl 1 (by decide) (kw hts kin_4 23 rfl) (fun _ h9 => h9) rfl dX7_next_93 ?_
                  refine lv_bipush (v := 51) hx hb dX7_next_96 (by decide) ?_
                  refine lv_iload hx hb dX7_next_98 (lv_at hl 9 rfl) ?_
                  refine lv_iadd hx hb dX7_next_100 ?_
                  refine va_iald (cA := cI) (n := 59) (f := told) hx hb hK hP 2 0 rfl rfl ((kb.add (kb.lit 51) (kloop hT2 (by decide) hlt70)).in (by decide) (by decide)) dX7_next_101 ?_
                  refine lv_iload hx hb dX7_next_102 (lv_at hl 7 rfl) ?_
                  refine ksi (As := [.int (told ((51 + (nI i1)).toNatClampNeg)), .int (nI i)]) (rest := [.int x70_8]) ⟨hx, hb, hml, hown, hts⟩ hP hK hD hS hA hE (k_X7_has l D cI cZ  (told ((51 + (nI i1)).toNatClampNeg)) (nI i)) (kcs hts kM_X7_has (kin_29 _ (List.mem_of_getElem? (i := 13) rfl)) ⟨rfl, rfl⟩ ⟨Nat.le_of_ble_eq_true rfl, Nat.le_of_ble_eq_true rfl⟩) kBl_T kOk_T rfl hl.1 rfl (Nat.le_of_ble_eq_true rfl) dX7_next_104 (fun H locs hP hD hS => ?_)
                  refine lv_if_eq (tgt := 114) hx hb dX7_next_107 (by decide) (fun c_107 => ?_) (fun c_107 => ?_)
                  · skip
                    refine lv_iconst (v := 0) hx hb dX7_next_114 (by decide) ?_
                    rw [show (v_X7_next_89_0 w told barber person i i1) = 0 from ((if_neg c_89).trans (if_pos c_107))] at J89
                    exact J89 _ _ _ hP hD hS (lv_sub hl [0, 1, 2, 3, 4, 5, 6, 7, 8, 9] rfl)
                  · skip
                    refine lv_iconst (v := 1) hx hb dX7_next_110 (by decide) ?_
                    refine lv_goto (tgt := 115) hx hb dX7_next_111 (by decide) ?_
                    rw [show (v_X7_next_89_0 w told barber person i i1) = 1 from ((if_neg c_89).trans (if_neg c_107))] at J89
                    exact J89 _ _ _ hP hD hS (lv_sub hl [0, 1, 2, 3, 4, 5, 6, 7, 8, 9] rfl)
            exact lp70 ((told 2).toNatClampNeg) 0 0 (Nat.zero_add _) (lp_zero _ _).symm _ _ _ hP hD hS (lv_sub hl [2, 3, 4, 5, 6, 7, 8, 9, 1, 0] rfl)
      exact lp53 6 0 (-1) 9 (Nat.zero_add _) rfl _ _ _ hP hD hS (lv_sub hl [5, 6, 7, 4, 3, 2, 1, 0] rfl)
    · skip
      refine lv_bipush (v := (-2)) hx hb dX7_next_16 (by decide) ?_
      have hf : (f_X7_next w told barber person) = (-2) := ((if_neg c_5).trans (if_pos c_13))
      rw [hf] at hret
      exact hret _ _ _ _ hP hS dX7_next_18
