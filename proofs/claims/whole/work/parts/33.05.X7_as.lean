def v_X7_as_38_0 (told : Nat → Int32) (person : Int32) (kind : Int32) : Int32 := if kind = 0 then 1 else (if kind = ((told ((3 + person).toNatClampNeg)) + 1) then 1 else (if kind = 1 then (if 4 ≤ ((told ((3 + person).toNatClampNeg)) + 1) then 0 else 1) else 0))
def v_X7_as_65_0 (w : Nat → Int32) (told : Nat → Int32) (person : Int32) (kind : Int32) : Int32 := if (v_X7_as_38_0 told person kind) = 0 then (-4) else (f_X7_tells told person 2 (w (((1 + (6 * person)) + 2).toNatClampNeg)))
def f_X7_as (w : Nat → Int32) (told : Nat → Int32) (person : Int32) (kind : Int32) : Int32 := if (f_X7_isPerson told person) = 0 then (-2) else (if (f_X7_in kind.toInt64 0 4) = 0 then (-3) else (v_X7_as_65_0 w told person kind))
abbrev rm_X7_as : Room := { frames := 2, cells := 0, slots := 0, locals := 46 }
set_option maxRecDepth 100000 in
set_option maxHeartbeats 4000000 in
theorem k_X7_as (l : Launch) (D : va_G) (cI cZ : ClassId) (u : Nat → Nat) (w : Nat → Int32) (told : Nat → Int32) (read : Nat → Int32) (isK : Nat → Int32) (undoes : Int32) (text : Nat → Int32) (texted : Int32) (seen : Int32) (seS : Nat → Int32) (seB : Nat → Int32) (seP : Nat → Int32) (at_ : Int32) (start : Int32) (clauses : Int32) (number : Int32) (word : Int64) (person : Int32) (kind : Int32) (hT1 : kb (told 1) 0 7) : CI l D (kTy cI cZ) kT yX7_as (.code yX7_as cX7_as 5 (some .int) :: wsL_law) rm_X7_as [.ref (u 0), .int person, .int kind] (wM cI cZ u w told read isK undoes text texted seen seS seB seP at_ start clauses number word) (wM cI cZ u w told read isK undoes text texted seen seS seB seP at_ start clauses number word) (f_X7_as w told person kind) := by
  refine CI.of (cc := cX7_as) (maxL := 5) (ty := .int) (by decide) rfl (Nat.le_of_ble_eq_true rfl) rfl ?_
  intro p e s m args below meth c A Q ls hx hb hml hts0 hown hA hP hK hD hE hl hret
  have hts : ∀ w ∈ wsL_law, w.before args s = true := fun w h => hts0 w (List.mem_cons_of_mem _ h)
  clear hts0
  have hown : s.vm.findClass RX7 = some m.cls := hown
  have hl : lv_has ls 5 [(0, .ref (u 0)), (1, .int person), (2, .int kind)] := hl
  have hS : va_S A s.heap s.heap [] := va_S.rf
  revert hP hS
  suffices hgo : ∀ (H : Heap) (locs : List Loc), va_P D vwCl (wM cI cZ u w told read isK undoes text texted seen seS seB seP at_ start clauses number word) H → va_S A s.heap H locs → W p l e rm_X7_as s m args below meth c H locs 0 0 Q (F0 m 0 ls []) from fun a b => hgo _ _ a b
  intro H locs hP hS
  refine lv_aload_n hx hb dX7_as_0 rfl (lv_at hl 0 rfl) ?_
  refine lv_iload_n hx hb dX7_as_1 rfl (lv_at hl 1 rfl) ?_
  refine kvi (As := [.int person]) (rest := []) (q0 := 0) (ci := 7) ⟨hx, hb, hml, hown, hts⟩ hP hK hD hS hA hE (k_X7_isPerson l D cI cZ  u w told read isK undoes text texted seen seS seB seP at_ start clauses number word person) (kcv hts kM_X7_isPerson (kin_18 _ (List.mem_of_getElem? (i := 6) rfl)) ⟨rfl, rfl⟩ ⟨Nat.le_of_ble_eq_true rfl, Nat.le_of_ble_eq_true rfl⟩) kBl_T kOk_T (wM cI cZ u w told read isK undoes text texted seen seS seB seP at_ start clauses number word) (cut_m_m cI cZ u w told read isK undoes text texted seen seS seB seP at_ start clauses number word w told read isK undoes text texted seen seS seB seP at_ start clauses number word).1 (cut_m_m cI cZ u w told read isK undoes text texted seen seS seB seP at_ start clauses number word w told read isK undoes text texted seen seS seB seP at_ start clauses number word).2 rfl rfl rfl rfl hl.1 rfl (Nat.le_of_ble_eq_true rfl) dX7_as_2 (fun H locs hP hD hS => ?_)
  refine lv_if_ne (tgt := 11) hx hb dX7_as_5 (by decide) (fun c_5 => ?_) (fun c_5 => ?_)
  · skip
    refine lv_iload_n hx hb dX7_as_11 rfl (lv_at hl 2 rfl) ?_
    refine lv_i2l (v := kind.toInt64) hx hb dX7_as_12 rfl ?_
    refine lv_lconst (v := 0) hx hb dX7_as_13 (by decide) ?_
    refine lv_ldc2 (v := 4) hx hb hown (kw hts kin_22 19 rfl) dX7_as_14 ?_
    refine ksi (As := [.long kind.toInt64, .long 0, .long 4]) (rest := []) ⟨hx, hb, hml, hown, hts⟩ hP hK hD hS hA hE (k_X7_in l D cI cZ  kind.toInt64 0 4) (kcs hts kM_X7_in (kin_6 _ (List.mem_of_getElem? (i := 6) rfl)) ⟨rfl, rfl⟩ ⟨Nat.le_of_ble_eq_true rfl, Nat.le_of_ble_eq_true rfl⟩) kBl_T kOk_T rfl hl.1 rfl (Nat.le_of_ble_eq_true rfl) dX7_as_17 (fun H locs hP hD hS => ?_)
    refine lv_if_ne (tgt := 26) hx hb dX7_as_20 (by decide) (fun c_20 => ?_) (fun c_20 => ?_)
    · skip
      refine lv_aload_n hx hb dX7_as_26 rfl (lv_at hl 0 rfl) ?_
      refine va_get (D := D) (ci := 7) (v := .ref (u 2)) (C := RX7) (T := TX7) (N := 16) hx hb hts inlX7 hown hK hP 0 rfl rfl 1 (by decide) (kw hts kin_4 23 rfl) (fun _ h9 => h9) rfl dX7_as_27 ?_
      refine lv_iconst (v := 3) hx hb dX7_as_30 (by decide) ?_
      refine lv_iload_n hx hb dX7_as_31 rfl (lv_at hl 1 rfl) ?_
      refine lv_iadd hx hb dX7_as_32 ?_
      refine va_iald (cA := cI) (n := 59) (f := told) hx hb hK hP 2 0 rfl rfl ((kb.add (kb.lit 3) (kperson hT1 (by decide) c_5)).in (by decide) (by decide)) dX7_as_33 ?_
      refine lv_iconst (v := 1) hx hb dX7_as_34 (by decide) ?_
      refine lv_iadd hx hb dX7_as_35 ?_
      refine lv_istore_n (lv' := [(3, .int ((told ((3 + person).toNatClampNeg)) + 1)), (0, .ref (u 0)), (1, .int person), (2, .int kind)]) hx hb dX7_as_36 rfl hl (by decide) rfl (fun ls hl => ?_)
      refine lv_iload_n hx hb dX7_as_37 rfl (lv_at hl 3 rfl) ?_
      have J38 : ∀ (H : Heap) (locs : List Loc) (ls : Array Slot), va_P D vwCl (wM cI cZ u w told read isK undoes text texted seen seS seB seP at_ start clauses number word) H → va_D A (wM cI cZ u w told read isK undoes text texted seen seS seB seP at_ start clauses number word) → va_S A s.heap H locs → lv_has ls 5 [(0, .ref (u 0)), (1, .int person), (2, .int kind), (3, .int ((told ((3 + person).toNatClampNeg)) + 1))] → W p l e rm_X7_as s m args below meth c H locs 0 0 Q (F0 m 61 ls [.int (v_X7_as_38_0 told person kind)]) := by
        intro H locs ls hP hD hS hl
        refine lv_istore (lv' := [(4, .int (v_X7_as_38_0 told person kind)), (0, .ref (u 0)), (1, .int person), (2, .int kind), (3, .int ((told ((3 + person).toNatClampNeg)) + 1))]) hx hb dX7_as_61 hl (by decide) rfl (fun ls hl => ?_)
        refine lv_iload hx hb dX7_as_63 (lv_at hl 0 rfl) ?_
        have J65 : ∀ (H : Heap) (locs : List Loc) (ls : Array Slot), va_P D vwCl (wM cI cZ u w told read isK undoes text texted seen seS seB seP at_ start clauses number word) H → va_D A (wM cI cZ u w told read isK undoes text texted seen seS seB seP at_ start clauses number word) → va_S A s.heap H locs → lv_has ls 5 [(0, .ref (u 0)), (1, .int person), (2, .int kind), (3, .int ((told ((3 + person).toNatClampNeg)) + 1)), (4, .int (v_X7_as_38_0 told person kind))] → W p l e rm_X7_as s m args below meth c H locs 0 0 Q (F0 m 92 ls [.int (v_X7_as_65_0 w told person kind)]) := by
          intro H locs ls hP hD hS hl
          have hf : (f_X7_as w told person kind) = (v_X7_as_65_0 w told person kind) := ((if_neg c_5).trans (if_neg c_20))
          rw [hf] at hret
          exact hret _ _ _ _ hP hS dX7_as_92
        refine lv_if_eq (tgt := 90) hx hb dX7_as_65 (by decide) (fun c_65 => ?_) (fun c_65 => ?_)
        · skip
          refine lv_bipush (v := (-4)) hx hb dX7_as_90 (by decide) ?_
          rw [show (v_X7_as_65_0 w told person kind) = (-4) from (if_pos c_65)] at J65
          exact J65 _ _ _ hP hD hS (lv_sub hl [1, 2, 3, 4, 0] rfl)
        · skip
          refine lv_aload_n hx hb dX7_as_68 rfl (lv_at hl 1 rfl) ?_
          refine lv_iload_n hx hb dX7_as_69 rfl (lv_at hl 2 rfl) ?_
          refine lv_iconst (v := 2) hx hb dX7_as_70 (by decide) ?_
          refine lv_aload_n hx hb dX7_as_71 rfl (lv_at hl 1 rfl) ?_
          refine va_get (D := D) (ci := 7) (v := .ref (u 1)) (C := RX7) (T := TX7) (N := 16) hx hb hts inlX7 hown hK hP 0 rfl rfl 0 (by decide) (kw hts kin_4 22 rfl) (fun _ h9 => h9) rfl dX7_as_72 ?_
          refine lv_iconst (v := 1) hx hb dX7_as_75 (by decide) ?_
          refine lv_bipush (v := 6) hx hb dX7_as_76 (by decide) ?_
          refine lv_iload_n hx hb dX7_as_78 rfl (lv_at hl 2 rfl) ?_
          refine lv_imul hx hb dX7_as_79 ?_
          refine lv_iadd hx hb dX7_as_80 ?_
          refine lv_iconst (v := 2) hx hb dX7_as_81 (by decide) ?_
          refine lv_iadd hx hb dX7_as_82 ?_
          refine va_iald (cA := cI) (n := 1020) (f := w) hx hb hK hP 1 0 rfl rfl ((kb.add (kb.add (kb.lit 1) (kb.mul (c := 6) rfl (kperson hT1 (by decide) c_5))) (kb.lit 2)).in (by decide) (by decide)) dX7_as_83 ?_
          refine kvi (As := [.int person, .int 2, .int (w (((1 + (6 * person)) + 2).toNatClampNeg))]) (rest := []) (q0 := 0) (ci := 7) ⟨hx, hb, hml, hown, hts⟩ hP hK hD hS hA hE (k_X7_tells l D cI cZ  u w told read isK undoes text texted seen seS seB seP at_ start clauses number word person 2 (w (((1 + (6 * person)) + 2).toNatClampNeg)) ((kperson hT1 (by decide) c_5).wide (by decide) (by decide))) (kcv hts kM_X7_tells (kin_22 _ (List.mem_of_getElem? (i := 20) rfl)) ⟨rfl, rfl⟩ ⟨Nat.le_of_ble_eq_true rfl, Nat.le_of_ble_eq_true rfl⟩) kBl_T kOk_T (wM cI cZ u w told read isK undoes text texted seen seS seB seP at_ start clauses number word) (cut_m_m cI cZ u w told read isK undoes text texted seen seS seB seP at_ start clauses number word w told read isK undoes text texted seen seS seB seP at_ start clauses number word).1 (cut_m_m cI cZ u w told read isK undoes text texted seen seS seB seP at_ start clauses number word w told read isK undoes text texted seen seS seB seP at_ start clauses number word).2 rfl rfl rfl rfl hl.1 rfl (Nat.le_of_ble_eq_true rfl) dX7_as_84 (fun H locs hP hD hS => ?_)
          refine lv_goto (tgt := 92) hx hb dX7_as_87 (by decide) ?_
          rw [show (v_X7_as_65_0 w told person kind) = (f_X7_tells told person 2 (w (((1 + (6 * person)) + 2).toNatClampNeg))) from (if_neg c_65)] at J65
          exact J65 _ _ _ hP hD hS (lv_sub hl [1, 2, 3, 4, 0] rfl)
      refine lv_if_eq (tgt := 56) hx hb dX7_as_38 (by decide) (fun c_38 => ?_) (fun c_38 => ?_)
      · skip
        refine lv_iconst (v := 1) hx hb dX7_as_56 (by decide) ?_
        refine lv_goto (tgt := 61) hx hb dX7_as_57 (by decide) ?_
        rw [show (v_X7_as_38_0 told person kind) = 1 from (if_pos c_38)] at J38
        exact J38 _ _ _ hP hD hS (lv_sub hl [1, 2, 3, 0] rfl)
      · skip
        refine lv_iload_n hx hb dX7_as_41 rfl (lv_at hl 3 rfl) ?_
        refine lv_iload_n hx hb dX7_as_42 rfl (lv_at hl 0 rfl) ?_
        refine lv_icmp_eq (tgt := 56) hx hb dX7_as_43 (by decide) (fun c_43 => ?_) (fun c_43 => ?_)
        · skip
          refine lv_iconst (v := 1) hx hb dX7_as_56 (by decide) ?_
          refine lv_goto (tgt := 61) hx hb dX7_as_57 (by decide) ?_
          rw [show (v_X7_as_38_0 told person kind) = 1 from ((if_neg c_38).trans (if_pos c_43))] at J38
          exact J38 _ _ _ hP hD hS (lv_sub hl [1, 2, 3, 0] rfl)
        · skip
          refine lv_iload_n hx hb dX7_as_46 rfl (lv_at hl 3 rfl) ?_
          refine lv_iconst (v := 1) hx hb dX7_as_47 (by decide) ?_
          refine lv_icmp_ne (tgt := 60) hx hb dX7_as_48 (by decide) (fun c_48 => ?_) (fun c_48 => ?_)
          · skip
            refine lv_iconst (v := 0) hx hb dX7_as_60 (by decide) ?_
            rw [show (v_X7_as_38_0 told person kind) = 0 from ((if_neg c_38).trans ((if_neg c_43).trans (if_neg c_48)))] at J38
            exact J38 _ _ _ hP hD hS (lv_sub hl [1, 2, 3, 0] rfl)
          · skip
            refine lv_iload_n hx hb dX7_as_51 rfl (lv_at hl 0 rfl) ?_
            refine lv_iconst (v := 4) hx hb dX7_as_52 (by decide) ?_
            refine lv_icmp_ge (tgt := 60) hx hb dX7_as_53 (by decide) (fun c_53 => ?_) (fun c_53 => ?_)
            · skip
              refine lv_iconst (v := 0) hx hb dX7_as_60 (by decide) ?_
              rw [show (v_X7_as_38_0 told person kind) = 0 from ((if_neg c_38).trans ((if_neg c_43).trans ((if_pos c_48).trans (if_pos c_53))))] at J38
              exact J38 _ _ _ hP hD hS (lv_sub hl [1, 2, 3, 0] rfl)
            · skip
              refine lv_iconst (v := 1) hx hb dX7_as_56 (by decide) ?_
              refine lv_goto (tgt := 61) hx hb dX7_as_57 (by decide) ?_
              rw [show (v_X7_as_38_0 told person kind) = 1 from ((if_neg c_38).trans ((if_neg c_43).trans ((if_pos c_48).trans (if_neg c_53))))] at J38
              exact J38 _ _ _ hP hD hS (lv_sub hl [1, 2, 3, 0] rfl)
    · skip
      refine lv_bipush (v := (-3)) hx hb dX7_as_23 (by decide) ?_
      have hf : (f_X7_as w told person kind) = (-3) := ((if_neg c_5).trans (if_pos c_20))
      rw [hf] at hret
      exact hret _ _ _ _ hP hS dX7_as_25
  · skip
    refine lv_bipush (v := (-2)) hx hb dX7_as_8 (by decide) ?_
    have hf : (f_X7_as w told person kind) = (-2) := (if_pos c_5)
    rw [hf] at hret
    exact hret _ _ _ _ hP hS dX7_as_10
