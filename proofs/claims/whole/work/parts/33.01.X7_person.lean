def f_X7_person (w : Nat → Int32) (told : Nat → Int32) (person : Int32) (what : Int32) : Int32 := if (f_X7_isPerson told person) = 0 then (-2) else (if what = 0 then (told ((3 + person).toNatClampNeg)) else (if what = 1 then (told ((9 + person).toNatClampNeg)) else (if what = 2 then (f_X7_smoothOf w person) else (if what = 3 then (f_X7_beardsOf w person) else (-3)))))
abbrev rm_X7_person : Room := { frames := 2, cells := 0, slots := 0, locals := 46 }
set_option maxRecDepth 100000 in
set_option maxHeartbeats 4000000 in
theorem k_X7_person (l : Launch) (D : va_G) (cI cZ : ClassId) (u : Nat → Nat) (w : Nat → Int32) (told : Nat → Int32) (read : Nat → Int32) (isK : Nat → Int32) (undoes : Int32) (text : Nat → Int32) (texted : Int32) (seen : Int32) (seS : Nat → Int32) (seB : Nat → Int32) (seP : Nat → Int32) (at_ : Int32) (start : Int32) (clauses : Int32) (number : Int32) (word : Int64) (person : Int32) (what : Int32) (hT1 : kb (told 1) 0 7) : CI l D (kTy cI cZ) kT yX7_person (.code yX7_person cX7_person 3 (some .int) :: wsL_law) rm_X7_person [.ref (u 0), .int person, .int what] (wM cI cZ u w told read isK undoes text texted seen seS seB seP at_ start clauses number word) (wM cI cZ u w told read isK undoes text texted seen seS seB seP at_ start clauses number word) (f_X7_person w told person what) := by
  refine CI.of (cc := cX7_person) (maxL := 3) (ty := .int) (by decide) rfl (Nat.le_of_ble_eq_true rfl) rfl ?_
  intro p e s m args below meth c A Q ls hx hb hml hts0 hown hA hP hK hD hE hl hret
  have hts : ∀ w ∈ wsL_law, w.before args s = true := fun w h => hts0 w (List.mem_cons_of_mem _ h)
  clear hts0
  have hown : s.vm.findClass RX7 = some m.cls := hown
  have hl : lv_has ls 3 [(0, .ref (u 0)), (1, .int person), (2, .int what)] := hl
  have hS : va_S A s.heap s.heap [] := va_S.rf
  revert hP hS
  suffices hgo : ∀ (H : Heap) (locs : List Loc), va_P D vwCl (wM cI cZ u w told read isK undoes text texted seen seS seB seP at_ start clauses number word) H → va_S A s.heap H locs → W p l e rm_X7_person s m args below meth c H locs 0 0 Q (F0 m 0 ls []) from fun a b => hgo _ _ a b
  intro H locs hP hS
  refine lv_aload_n hx hb dX7_person_0 rfl (lv_at hl 0 rfl) ?_
  refine lv_iload_n hx hb dX7_person_1 rfl (lv_at hl 1 rfl) ?_
  refine kvi (As := [.int person]) (rest := []) (q0 := 0) (ci := 7) ⟨hx, hb, hml, hown, hts⟩ hP hK hD hS hA hE (k_X7_isPerson l D cI cZ  u w told read isK undoes text texted seen seS seB seP at_ start clauses number word person) (kcv hts kM_X7_isPerson (kin_18 _ (List.mem_of_getElem? (i := 6) rfl)) ⟨rfl, rfl⟩ ⟨Nat.le_of_ble_eq_true rfl, Nat.le_of_ble_eq_true rfl⟩) kBl_T kOk_T (wM cI cZ u w told read isK undoes text texted seen seS seB seP at_ start clauses number word) (cut_m_m cI cZ u w told read isK undoes text texted seen seS seB seP at_ start clauses number word w told read isK undoes text texted seen seS seB seP at_ start clauses number word).1 (cut_m_m cI cZ u w told read isK undoes text texted seen seS seB seP at_ start clauses number word w told read isK undoes text texted seen seS seB seP at_ start clauses number word).2 rfl rfl rfl rfl hl.1 rfl (Nat.le_of_ble_eq_true rfl) dX7_person_2 (fun H locs hP hD hS => ?_)
  refine lv_if_ne (tgt := 11) hx hb dX7_person_5 (by decide) (fun c_5 => ?_) (fun c_5 => ?_)
  · skip
    refine lv_iload_n hx hb dX7_person_11 rfl (lv_at hl 2 rfl) ?_
    by_cases c_12_0 : what = 0
    · skip
      refine lv_tableIn (off := 32) (tgt := 44) hx hb dX7_person_12 (by rw [c_12_0]; decide) (by rw [c_12_0]; decide) (by rw [c_12_0]; rfl) (by decide) ?_
      refine lv_aload_n hx hb dX7_person_44 rfl (lv_at hl 0 rfl) ?_
      refine va_get (D := D) (ci := 7) (v := .ref (u 2)) (C := RX7) (T := TX7) (N := 16) hx hb hts inlX7 hown hK hP 0 rfl rfl 1 (by decide) (kw hts kin_4 23 rfl) (fun _ h9 => h9) rfl dX7_person_45 ?_
      refine lv_iconst (v := 3) hx hb dX7_person_48 (by decide) ?_
      refine lv_iload_n hx hb dX7_person_49 rfl (lv_at hl 1 rfl) ?_
      refine lv_iadd hx hb dX7_person_50 ?_
      refine va_iald (cA := cI) (n := 59) (f := told) hx hb hK hP 2 0 rfl rfl ((kb.add (kb.lit 3) (kperson hT1 (by decide) c_5)).in (by decide) (by decide)) dX7_person_51 ?_
      have hf : (f_X7_person w told person what) = (told ((3 + person).toNatClampNeg)) := ((if_neg c_5).trans (if_pos c_12_0))
      rw [hf] at hret
      exact hret _ _ _ _ hP hS dX7_person_52
    · skip
      by_cases c_12_1 : what = 1
      · skip
        refine lv_tableIn (off := 41) (tgt := 53) hx hb dX7_person_12 (by rw [c_12_1]; decide) (by rw [c_12_1]; decide) (by rw [c_12_1]; rfl) (by decide) ?_
        refine lv_aload_n hx hb dX7_person_53 rfl (lv_at hl 0 rfl) ?_
        refine va_get (D := D) (ci := 7) (v := .ref (u 2)) (C := RX7) (T := TX7) (N := 16) hx hb hts inlX7 hown hK hP 0 rfl rfl 1 (by decide) (kw hts kin_4 23 rfl) (fun _ h9 => h9) rfl dX7_person_54 ?_
        refine lv_bipush (v := 9) hx hb dX7_person_57 (by decide) ?_
        refine lv_iload_n hx hb dX7_person_59 rfl (lv_at hl 1 rfl) ?_
        refine lv_iadd hx hb dX7_person_60 ?_
        refine va_iald (cA := cI) (n := 59) (f := told) hx hb hK hP 2 0 rfl rfl ((kb.add (kb.lit 9) (kperson hT1 (by decide) c_5)).in (by decide) (by decide)) dX7_person_61 ?_
        have hf : (f_X7_person w told person what) = (told ((9 + person).toNatClampNeg)) := ((if_neg c_5).trans ((if_neg c_12_0).trans (if_pos c_12_1)))
        rw [hf] at hret
        exact hret _ _ _ _ hP hS dX7_person_62
      · skip
        by_cases c_12_2 : what = 2
        · skip
          refine lv_tableIn (off := 51) (tgt := 63) hx hb dX7_person_12 (by rw [c_12_2]; decide) (by rw [c_12_2]; decide) (by rw [c_12_2]; rfl) (by decide) ?_
          refine lv_aload_n hx hb dX7_person_63 rfl (lv_at hl 0 rfl) ?_
          refine lv_iload_n hx hb dX7_person_64 rfl (lv_at hl 1 rfl) ?_
          refine kvi (As := [.int person]) (rest := []) (q0 := 0) (ci := 7) ⟨hx, hb, hml, hown, hts⟩ hP hK hD hS hA hE (k_X7_smoothOf l D cI cZ  u w told read isK undoes text texted seen seS seB seP at_ start clauses number word person ((kperson hT1 (by decide) c_5).wide (by decide) (by decide))) (kcv hts kM_X7_smoothOf (kin_18 _ (List.mem_of_getElem? (i := 10) rfl)) ⟨rfl, rfl⟩ ⟨Nat.le_of_ble_eq_true rfl, Nat.le_of_ble_eq_true rfl⟩) kBl_T kOk_T (wM cI cZ u w told read isK undoes text texted seen seS seB seP at_ start clauses number word) (cut_m_m cI cZ u w told read isK undoes text texted seen seS seB seP at_ start clauses number word w told read isK undoes text texted seen seS seB seP at_ start clauses number word).1 (cut_m_m cI cZ u w told read isK undoes text texted seen seS seB seP at_ start clauses number word w told read isK undoes text texted seen seS seB seP at_ start clauses number word).2 rfl rfl rfl rfl hl.1 rfl (Nat.le_of_ble_eq_true rfl) dX7_person_65 (fun H locs hP hD hS => ?_)
          have hf : (f_X7_person w told person what) = (f_X7_smoothOf w person) := ((if_neg c_5).trans ((if_neg c_12_0).trans ((if_neg c_12_1).trans (if_pos c_12_2))))
          rw [hf] at hret
          exact hret _ _ _ _ hP hS dX7_person_68
        · skip
          by_cases c_12_3 : what = 3
          · skip
            refine lv_tableIn (off := 57) (tgt := 69) hx hb dX7_person_12 (by rw [c_12_3]; decide) (by rw [c_12_3]; decide) (by rw [c_12_3]; rfl) (by decide) ?_
            refine lv_aload_n hx hb dX7_person_69 rfl (lv_at hl 0 rfl) ?_
            refine lv_iload_n hx hb dX7_person_70 rfl (lv_at hl 1 rfl) ?_
            refine kvi (As := [.int person]) (rest := []) (q0 := 0) (ci := 7) ⟨hx, hb, hml, hown, hts⟩ hP hK hD hS hA hE (k_X7_beardsOf l D cI cZ  u w told read isK undoes text texted seen seS seB seP at_ start clauses number word person ((kperson hT1 (by decide) c_5).wide (by decide) (by decide))) (kcv hts kM_X7_beardsOf (kin_18 _ (List.mem_of_getElem? (i := 14) rfl)) ⟨rfl, rfl⟩ ⟨Nat.le_of_ble_eq_true rfl, Nat.le_of_ble_eq_true rfl⟩) kBl_T kOk_T (wM cI cZ u w told read isK undoes text texted seen seS seB seP at_ start clauses number word) (cut_m_m cI cZ u w told read isK undoes text texted seen seS seB seP at_ start clauses number word w told read isK undoes text texted seen seS seB seP at_ start clauses number word).1 (cut_m_m cI cZ u w told read isK undoes text texted seen seS seB seP at_ start clauses number word w told read isK undoes text texted seen seS seB seP at_ start clauses number word).2 rfl rfl rfl rfl hl.1 rfl (Nat.le_of_ble_eq_true rfl) dX7_person_71 (fun H locs hP hD hS => ?_)
            have hf : (f_X7_person w told person what) = (f_X7_beardsOf w person) := ((if_neg c_5).trans ((if_neg c_12_0).trans ((if_neg c_12_1).trans ((if_neg c_12_2).trans (if_pos c_12_3)))))
            rw [hf] at hret
            exact hret _ _ _ _ hP hS dX7_person_74
          · skip
            have htab : what.toInt < 0 ∨ 3 < what.toInt := by
              have a0 : what.toInt ≠ 0 := kneI c_12_0
              have a1 : what.toInt ≠ 1 := kneI c_12_1
              have a2 : what.toInt ≠ 2 := kneI c_12_2
              have a3 : what.toInt ≠ 3 := kneI c_12_3
              omega
            refine lv_tableOut (tgt := 75) hx hb dX7_person_12 htab (by decide) ?_
            refine lv_bipush (v := (-3)) hx hb dX7_person_75 (by decide) ?_
            have hf : (f_X7_person w told person what) = (-3) := ((if_neg c_5).trans ((if_neg c_12_0).trans ((if_neg c_12_1).trans ((if_neg c_12_2).trans (if_neg c_12_3)))))
            rw [hf] at hret
            exact hret _ _ _ _ hP hS dX7_person_77
  · skip
    refine lv_bipush (v := (-2)) hx hb dX7_person_8 (by decide) ?_
    have hf : (f_X7_person w told person what) = (-2) := (if_pos c_5)
    rw [hf] at hret
    exact hret _ _ _ _ hP hS dX7_person_10
