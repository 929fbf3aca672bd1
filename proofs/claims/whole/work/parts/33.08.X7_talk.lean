def f_X7_talk (w : Nat → Int32) (told : Nat → Int32) (undoes : Int32) (barber : Int32) (other : Int32) (person : Int32) : Int32 × (Nat → Int32) × Int32 := if (f_X7_isBarber told barber) = 0 then ((-2), w, undoes) else (if (f_X7_isBarber told other) = 0 then ((-2), w, undoes) else (if barber = other then ((-2), w, undoes) else (if (f_X7_isPerson told person) = 0 then ((-2), w, undoes) else (((upd (upd ((f_X7_minds w undoes).1) ((61 + ((6 * other) + person)).toNatClampNeg) (((((f_X7_minds w undoes).1) ((61 + ((6 * other) + person)).toNatClampNeg)) &&& ((((f_X7_minds w undoes).1) ((37 + ((6 * barber) + person)).toNatClampNeg)) ^^^ (-1))) ||| (((f_X7_minds w undoes).1) ((61 + ((6 * barber) + person)).toNatClampNeg)))) ((37 + ((6 * other) + person)).toNatClampNeg) (((upd ((f_X7_minds w undoes).1) ((61 + ((6 * other) + person)).toNatClampNeg) (((((f_X7_minds w undoes).1) ((61 + ((6 * other) + person)).toNatClampNeg)) &&& ((((f_X7_minds w undoes).1) ((37 + ((6 * barber) + person)).toNatClampNeg)) ^^^ (-1))) ||| (((f_X7_minds w undoes).1) ((61 + ((6 * barber) + person)).toNatClampNeg)))) ((37 + ((6 * other) + person)).toNatClampNeg)) ||| ((upd ((f_X7_minds w undoes).1) ((61 + ((6 * other) + person)).toNatClampNeg) (((((f_X7_minds w undoes).1) ((61 + ((6 * other) + person)).toNatClampNeg)) &&& ((((f_X7_minds w undoes).1) ((37 + ((6 * barber) + person)).toNatClampNeg)) ^^^ (-1))) ||| (((f_X7_minds w undoes).1) ((61 + ((6 * barber) + person)).toNatClampNeg)))) ((37 + ((6 * barber) + person)).toNatClampNeg)))) ((37 + ((6 * other) + person)).toNatClampNeg)), (upd (upd ((f_X7_minds w undoes).1) ((61 + ((6 * other) + person)).toNatClampNeg) (((((f_X7_minds w undoes).1) ((61 + ((6 * other) + person)).toNatClampNeg)) &&& ((((f_X7_minds w undoes).1) ((37 + ((6 * barber) + person)).toNatClampNeg)) ^^^ (-1))) ||| (((f_X7_minds w undoes).1) ((61 + ((6 * barber) + person)).toNatClampNeg)))) ((37 + ((6 * other) + person)).toNatClampNeg) (((upd ((f_X7_minds w undoes).1) ((61 + ((6 * other) + person)).toNatClampNeg) (((((f_X7_minds w undoes).1) ((61 + ((6 * other) + person)).toNatClampNeg)) &&& ((((f_X7_minds w undoes).1) ((37 + ((6 * barber) + person)).toNatClampNeg)) ^^^ (-1))) ||| (((f_X7_minds w undoes).1) ((61 + ((6 * barber) + person)).toNatClampNeg)))) ((37 + ((6 * other) + person)).toNatClampNeg)) ||| ((upd ((f_X7_minds w undoes).1) ((61 + ((6 * other) + person)).toNatClampNeg) (((((f_X7_minds w undoes).1) ((61 + ((6 * other) + person)).toNatClampNeg)) &&& ((((f_X7_minds w undoes).1) ((37 + ((6 * barber) + person)).toNatClampNeg)) ^^^ (-1))) ||| (((f_X7_minds w undoes).1) ((61 + ((6 * barber) + person)).toNatClampNeg)))) ((37 + ((6 * barber) + person)).toNatClampNeg)))), (f_X7_minds w undoes).2))))
abbrev rm_X7_talk : Room := { frames := 2, cells := 0, slots := 0, locals := 46 }
set_option maxRecDepth 100000 in
set_option maxHeartbeats 4000000 in
theorem k_X7_talk (l : Launch) (D : va_G) (cI cZ : ClassId) (u : Nat → Nat) (w : Nat → Int32) (told : Nat → Int32) (read : Nat → Int32) (isK : Nat → Int32) (undoes : Int32) (text : Nat → Int32) (texted : Int32) (seen : Int32) (seS : Nat → Int32) (seB : Nat → Int32) (seP : Nat → Int32) (at_ : Int32) (start : Int32) (clauses : Int32) (number : Int32) (word : Int64) (barber : Int32) (other : Int32) (person : Int32) (hT0 : kb (told 0) 1 5) (hT1 : kb (told 1) 0 7) (h_undoes : kb undoes 0 9) : CI l D (kTy cI cZ) kT yX7_talk (.code yX7_talk cX7_talk 6 (some .int) :: wsL_law) rm_X7_talk [.ref (u 0), .int barber, .int other, .int person] (wM cI cZ u w told read isK undoes text texted seen seS seB seP at_ start clauses number word) (wM cI cZ u ((f_X7_talk w told undoes barber other person).2.1) told read isK ((f_X7_talk w told undoes barber other person).2.2) text texted seen seS seB seP at_ start clauses number word) ((f_X7_talk w told undoes barber other person).1) := by
  refine CI.of (cc := cX7_talk) (maxL := 6) (ty := .int) (by decide) rfl (Nat.le_of_ble_eq_true rfl) rfl ?_
  intro p e s m args below meth c A Q ls hx hb hml hts0 hown hA hP hK hD hE hl hret
  have hts : ∀ w ∈ wsL_law, w.before args s = true := fun w h => hts0 w (List.mem_cons_of_mem _ h)
  clear hts0
  have hown : s.vm.findClass RX7 = some m.cls := hown
  have hl : lv_has ls 6 [(0, .ref (u 0)), (1, .int barber), (2, .int other), (3, .int person)] := hl
  have hS : va_S A s.heap s.heap [] := va_S.rf
  revert hP hS
  suffices hgo : ∀ (H : Heap) (locs : List Loc), va_P D vwCl (wM cI cZ u w told read isK undoes text texted seen seS seB seP at_ start clauses number word) H → va_S A s.heap H locs → W p l e rm_X7_talk s m args below meth c H locs 0 0 Q (F0 m 0 ls []) from fun a b => hgo _ _ a b
  intro H locs hP hS
  refine lv_aload_n hx hb dX7_talk_0 rfl (lv_at hl 0 rfl) ?_
  refine lv_iload_n hx hb dX7_talk_1 rfl (lv_at hl 1 rfl) ?_
  refine kvi (As := [.int barber]) (rest := []) (q0 := 0) (ci := 7) ⟨hx, hb, hml, hown, hts⟩ hP hK hD hS hA hE (k_X7_isBarber l D cI cZ  u w told read isK undoes text texted seen seS seB seP at_ start clauses number word barber) (kcv hts kM_X7_isBarber (kin_21 _ (List.mem_of_getElem? (i := 8) rfl)) ⟨rfl, rfl⟩ ⟨Nat.le_of_ble_eq_true rfl, Nat.le_of_ble_eq_true rfl⟩) kBl_T kOk_T (wM cI cZ u w told read isK undoes text texted seen seS seB seP at_ start clauses number word) (cut_m_m cI cZ u w told read isK undoes text texted seen seS seB seP at_ start clauses number word w told read isK undoes text texted seen seS seB seP at_ start clauses number word).1 (cut_m_m cI cZ u w told read isK undoes text texted seen seS seB seP at_ start clauses number word w told read isK undoes text texted seen seS seB seP at_ start clauses number word).2 rfl rfl rfl rfl hl.1 rfl (Nat.le_of_ble_eq_true rfl) dX7_talk_2 (fun H locs hP hD hS => ?_)
  refine lv_if_eq (tgt := 29) hx hb dX7_talk_5 (by decide) (fun c_5 => ?_) (fun c_5 => ?_)
  · skip
    refine lv_bipush (v := (-2)) hx hb dX7_talk_29 (by decide) ?_
    have hf : (f_X7_talk w told undoes barber other person) = ((-2), w, undoes) := (if_pos c_5)
    rw [hf] at hret
    dsimp only at hret
    exact hret _ _ _ _ hP hS dX7_talk_31
  · skip
    refine lv_aload_n hx hb dX7_talk_8 rfl (lv_at hl 0 rfl) ?_
    refine lv_iload_n hx hb dX7_talk_9 rfl (lv_at hl 2 rfl) ?_
    refine kvi (As := [.int other]) (rest := []) (q0 := 0) (ci := 7) ⟨hx, hb, hml, hown, hts⟩ hP hK hD hS hA hE (k_X7_isBarber l D cI cZ  u w told read isK undoes text texted seen seS seB seP at_ start clauses number word other) (kcv hts kM_X7_isBarber (kin_21 _ (List.mem_of_getElem? (i := 8) rfl)) ⟨rfl, rfl⟩ ⟨Nat.le_of_ble_eq_true rfl, Nat.le_of_ble_eq_true rfl⟩) kBl_T kOk_T (wM cI cZ u w told read isK undoes text texted seen seS seB seP at_ start clauses number word) (cut_m_m cI cZ u w told read isK undoes text texted seen seS seB seP at_ start clauses number word w told read isK undoes text texted seen seS seB seP at_ start clauses number word).1 (cut_m_m cI cZ u w told read isK undoes text texted seen seS seB seP at_ start clauses number word w told read isK undoes text texted seen seS seB seP at_ start clauses number word).2 rfl rfl rfl rfl hl.1 rfl (Nat.le_of_ble_eq_true rfl) dX7_talk_10 (fun H locs hP hD hS => ?_)
    refine lv_if_eq (tgt := 29) hx hb dX7_talk_13 (by decide) (fun c_13 => ?_) (fun c_13 => ?_)
    · skip
      refine lv_bipush (v := (-2)) hx hb dX7_talk_29 (by decide) ?_
      have hf : (f_X7_talk w told undoes barber other person) = ((-2), w, undoes) := ((if_neg c_5).trans (if_pos c_13))
      rw [hf] at hret
      dsimp only at hret
      exact hret _ _ _ _ hP hS dX7_talk_31
    · skip
      refine lv_iload_n hx hb dX7_talk_16 rfl (lv_at hl 1 rfl) ?_
      refine lv_iload_n hx hb dX7_talk_17 rfl (lv_at hl 2 rfl) ?_
      refine lv_icmp_eq (tgt := 29) hx hb dX7_talk_18 (by decide) (fun c_18 => ?_) (fun c_18 => ?_)
      · skip
        refine lv_bipush (v := (-2)) hx hb dX7_talk_29 (by decide) ?_
        have hf : (f_X7_talk w told undoes barber other person) = ((-2), w, undoes) := ((if_neg c_5).trans ((if_neg c_13).trans (if_pos c_18)))
        rw [hf] at hret
        dsimp only at hret
        exact hret _ _ _ _ hP hS dX7_talk_31
      · skip
        refine lv_aload_n hx hb dX7_talk_21 rfl (lv_at hl 0 rfl) ?_
        refine lv_iload_n hx hb dX7_talk_22 rfl (lv_at hl 3 rfl) ?_
        refine kvi (As := [.int person]) (rest := []) (q0 := 0) (ci := 7) ⟨hx, hb, hml, hown, hts⟩ hP hK hD hS hA hE (k_X7_isPerson l D cI cZ  u w told read isK undoes text texted seen seS seB seP at_ start clauses number word person) (kcv hts kM_X7_isPerson (kin_18 _ (List.mem_of_getElem? (i := 6) rfl)) ⟨rfl, rfl⟩ ⟨Nat.le_of_ble_eq_true rfl, Nat.le_of_ble_eq_true rfl⟩) kBl_T kOk_T (wM cI cZ u w told read isK undoes text texted seen seS seB seP at_ start clauses number word) (cut_m_m cI cZ u w told read isK undoes text texted seen seS seB seP at_ start clauses number word w told read isK undoes text texted seen seS seB seP at_ start clauses number word).1 (cut_m_m cI cZ u w told read isK undoes text texted seen seS seB seP at_ start clauses number word w told read isK undoes text texted seen seS seB seP at_ start clauses number word).2 rfl rfl rfl rfl hl.1 rfl (Nat.le_of_ble_eq_true rfl) dX7_talk_23 (fun H locs hP hD hS => ?_)
        refine lv_if_ne (tgt := 32) hx hb dX7_talk_26 (by decide) (fun c_26 => ?_) (fun c_26 => ?_)
        · skip
          refine lv_aload_n hx hb dX7_talk_32 rfl (lv_at hl 0 rfl) ?_
          refine kvv (As := []) (rest := []) (q0 := 0) (ci := 7) ⟨hx, hb, hml, hown, hts⟩ hP hK hD hS hA hE (k_X7_minds l D cI cZ  u w told read isK undoes text texted seen seS seB seP at_ start clauses number word (h_undoes.wide (by decide) (by decide))) (kcv hts kM_X7_minds (kin_24 _ (List.mem_of_getElem? (i := 15) rfl)) ⟨rfl, rfl⟩ ⟨Nat.le_of_ble_eq_true rfl, Nat.le_of_ble_eq_true rfl⟩) kBl_T kOk_T (wM cI cZ u ((f_X7_minds w undoes).1) told read isK ((f_X7_minds w undoes).2) text texted seen seS seB seP at_ start clauses number word) (cut_m_m cI cZ u w told read isK undoes text texted seen seS seB seP at_ start clauses number word ((f_X7_minds w undoes).1) told read isK ((f_X7_minds w undoes).2) text texted seen seS seB seP at_ start clauses number word).1 (cut_m_m cI cZ u w told read isK undoes text texted seen seS seB seP at_ start clauses number word ((f_X7_minds w undoes).1) told read isK ((f_X7_minds w undoes).2) text texted seen seS seB seP at_ start clauses number word).2 rfl rfl rfl rfl hl.1 rfl (Nat.le_of_ble_eq_true rfl) dX7_talk_33 (fun H locs hP hD hS => ?_)
          refine lv_bipush (v := 6) hx hb dX7_talk_36 (by decide) ?_
          refine lv_iload_n hx hb dX7_talk_38 rfl (lv_at hl 1 rfl) ?_
          refine lv_imul hx hb dX7_talk_39 ?_
          refine lv_iload_n hx hb dX7_talk_40 rfl (lv_at hl 3 rfl) ?_
          refine lv_iadd hx hb dX7_talk_41 ?_
          refine lv_istore (lv' := [(4, .int ((6 * barber) + person)), (0, .ref (u 0)), (1, .int barber), (2, .int other), (3, .int person)]) hx hb dX7_talk_42 hl (by decide) rfl (fun ls hl => ?_)
          refine lv_bipush (v := 6) hx hb dX7_talk_44 (by decide) ?_
          refine lv_iload_n hx hb dX7_talk_46 rfl (lv_at hl 3 rfl) ?_
          refine lv_imul hx hb dX7_talk_47 ?_
          refine lv_iload_n hx hb dX7_talk_48 rfl (lv_at hl 4 rfl) ?_
          refine lv_iadd hx hb dX7_talk_49 ?_
          refine lv_istore (lv' := [(5, .int ((6 * other) + person)), (4, .int ((6 * barber) + person)), (0, .ref (u 0)), (1, .int barber), (2, .int other), (3, .int person)]) hx hb dX7_talk_50 hl (by decide) rfl (fun ls hl => ?_)
          refine lv_aload_n hx hb dX7_talk_52 rfl (lv_at hl 2 rfl) ?_
          refine va_get (D := D) (ci := 7) (v := .ref (u 1)) (C := RX7) (T := TX7) (N := 16) hx hb hts inlX7 hown hK hP 0 rfl rfl 0 (by decide) (kw hts kin_4 22 rfl) (fun _ h9 => h9) rfl dX7_talk_53 ?_
          refine lv_bipush (v := 61) hx hb dX7_talk_56 (by decide) ?_
          refine lv_iload hx hb dX7_talk_58 (lv_at hl 0 rfl) ?_
          refine lv_iadd hx hb dX7_talk_60 ?_
          refine lv_aload_n hx hb dX7_talk_61 rfl (lv_at hl 2 rfl) ?_
          refine va_get (D := D) (ci := 7) (v := .ref (u 1)) (C := RX7) (T := TX7) (N := 16) hx hb hts inlX7 hown hK hP 0 rfl rfl 0 (by decide) (kw hts kin_4 22 rfl) (fun _ h9 => h9) rfl dX7_talk_62 ?_
          refine lv_bipush (v := 61) hx hb dX7_talk_65 (by decide) ?_
          refine lv_iload hx hb dX7_talk_67 (lv_at hl 0 rfl) ?_
          refine lv_iadd hx hb dX7_talk_69 ?_
          refine va_iald (cA := cI) (n := 1020) (f := (f_X7_minds w undoes).1) hx hb hK hP 1 0 rfl rfl ((kb.add (kb.lit 61) (kb.add (kb.mul (c := 6) rfl (kperson hT0 (by decide) c_13)) (kperson hT1 (by decide) c_26))).in (by decide) (by decide)) dX7_talk_70 ?_
          refine lv_aload_n hx hb dX7_talk_71 rfl (lv_at hl 2 rfl) ?_
          refine va_get (D := D) (ci := 7) (v := .ref (u 1)) (C := RX7) (T := TX7) (N := 16) hx hb hts inlX7 hown hK hP 0 rfl rfl 0 (by decide) (kw hts kin_4 22 rfl) (fun _ h9 => h9) rfl dX7_talk_72 ?_
          refine lv_bipush (v := 37) hx hb dX7_talk_75 (by decide) ?_
          refine lv_iload hx hb dX7_talk_77 (lv_at hl 1 rfl) ?_
          refine lv_iadd hx hb dX7_talk_79 ?_
          refine va_iald (cA := cI) (n := 1020) (f := (f_X7_minds w undoes).1) hx hb hK hP 1 0 rfl rfl ((kb.add (kb.lit 37) (kb.add (kb.mul (c := 6) rfl (kperson hT0 (by decide) c_5)) (kperson hT1 (by decide) c_26))).in (by decide) (by decide)) dX7_talk_80 ?_
          refine lv_iconst (v := (-1)) hx hb dX7_talk_81 (by decide) ?_
          refine lv_ixor hx hb dX7_talk_82 ?_
          refine lv_iand hx hb dX7_talk_83 ?_
          refine lv_aload_n hx hb dX7_talk_84 rfl (lv_at hl 2 rfl) ?_
          refine va_get (D := D) (ci := 7) (v := .ref (u 1)) (C := RX7) (T := TX7) (N := 16) hx hb hts inlX7 hown hK hP 0 rfl rfl 0 (by decide) (kw hts kin_4 22 rfl) (fun _ h9 => h9) rfl dX7_talk_85 ?_
          refine lv_bipush (v := 61) hx hb dX7_talk_88 (by decide) ?_
          refine lv_iload hx hb dX7_talk_90 (lv_at hl 1 rfl) ?_
          refine lv_iadd hx hb dX7_talk_92 ?_
          refine va_iald (cA := cI) (n := 1020) (f := (f_X7_minds w undoes).1) hx hb hK hP 1 0 rfl rfl ((kb.add (kb.lit 61) (kb.add (kb.mul (c := 6) rfl (kperson hT0 (by decide) c_5)) (kperson hT1 (by decide) c_26))).in (by decide) (by decide)) dX7_talk_93 ?_
          refine lv_ior hx hb dX7_talk_94 ?_
          refine va_iast (cA := cI) (n := 1020) (f := (f_X7_minds w undoes).1) hx hb hK hP hD hS 1 0 rfl rfl ((kb.add (kb.lit 61) (kb.add (kb.mul (c := 6) rfl (kperson hT0 (by decide) c_13)) (kperson hT1 (by decide) c_26))).in (by decide) (by decide)) dX7_talk_95 (fun H locs hP hD hS => ?_)
          have hP : va_P D vwCl (wM cI cZ u (upd ((f_X7_minds w undoes).1) ((61 + ((6 * other) + person)).toNatClampNeg) (((((f_X7_minds w undoes).1) ((61 + ((6 * other) + person)).toNatClampNeg)) &&& ((((f_X7_minds w undoes).1) ((37 + ((6 * barber) + person)).toNatClampNeg)) ^^^ (-1))) ||| (((f_X7_minds w undoes).1) ((61 + ((6 * barber) + person)).toNatClampNeg)))) told read isK ((f_X7_minds w undoes).2) text texted seen seS seB seP at_ start clauses number word) H := hP
          have hD : va_D A (wM cI cZ u (upd ((f_X7_minds w undoes).1) ((61 + ((6 * other) + person)).toNatClampNeg) (((((f_X7_minds w undoes).1) ((61 + ((6 * other) + person)).toNatClampNeg)) &&& ((((f_X7_minds w undoes).1) ((37 + ((6 * barber) + person)).toNatClampNeg)) ^^^ (-1))) ||| (((f_X7_minds w undoes).1) ((61 + ((6 * barber) + person)).toNatClampNeg)))) told read isK ((f_X7_minds w undoes).2) text texted seen seS seB seP at_ start clauses number word) := hD
          refine lv_aload_n hx hb dX7_talk_96 rfl (lv_at hl 2 rfl) ?_
          refine va_get (D := D) (ci := 7) (v := .ref (u 1)) (C := RX7) (T := TX7) (N := 16) hx hb hts inlX7 hown hK hP 0 rfl rfl 0 (by decide) (kw hts kin_4 22 rfl) (fun _ h9 => h9) rfl dX7_talk_97 ?_
          refine lv_bipush (v := 37) hx hb dX7_talk_100 (by decide) ?_
          refine lv_iload hx hb dX7_talk_102 (lv_at hl 0 rfl) ?_
          refine lv_iadd hx hb dX7_talk_104 ?_
          refine lv_dup2_11 hx hb dX7_talk_105 rfl rfl ?_
          refine va_iald (cA := cI) (n := 1020) (f := (upd ((f_X7_minds w undoes).1) ((61 + ((6 * other) + person)).toNatClampNeg) (((((f_X7_minds w undoes).1) ((61 + ((6 * other) + person)).toNatClampNeg)) &&& ((((f_X7_minds w undoes).1) ((37 + ((6 * barber) + person)).toNatClampNeg)) ^^^ (-1))) ||| (((f_X7_minds w undoes).1) ((61 + ((6 * barber) + person)).toNatClampNeg))))) hx hb hK hP 1 0 rfl rfl ((kb.add (kb.lit 37) (kb.add (kb.mul (c := 6) rfl (kperson hT0 (by decide) c_13)) (kperson hT1 (by decide) c_26))).in (by decide) (by decide)) dX7_talk_106 ?_
          refine lv_aload_n hx hb dX7_talk_107 rfl (lv_at hl 2 rfl) ?_
          refine va_get (D := D) (ci := 7) (v := .ref (u 1)) (C := RX7) (T := TX7) (N := 16) hx hb hts inlX7 hown hK hP 0 rfl rfl 0 (by decide) (kw hts kin_4 22 rfl) (fun _ h9 => h9) rfl dX7_talk_108 ?_
          refine lv_bipush (v := 37) hx hb dX7_talk_111 (by decide) ?_
          refine lv_iload hx hb dX7_talk_113 (lv_at hl 1 rfl) ?_
          refine lv_iadd hx hb dX7_talk_115 ?_
          refine va_iald (cA := cI) (n := 1020) (f := (upd ((f_X7_minds w undoes).1) ((61 + ((6 * other) + person)).toNatClampNeg) (((((f_X7_minds w undoes).1) ((61 + ((6 * other) + person)).toNatClampNeg)) &&& ((((f_X7_minds w undoes).1) ((37 + ((6 * barber) + person)).toNatClampNeg)) ^^^ (-1))) ||| (((f_X7_minds w undoes).1) ((61 + ((6 * barber) + person)).toNatClampNeg))))) hx hb hK hP 1 0 rfl rfl ((kb.add (kb.lit 37) (kb.add (kb.mul (c := 6) rfl (kperson hT0 (by decide) c_5)) (kperson hT1 (by decide) c_26))).in (by decide) (by decide)) dX7_talk_116 ?_
          refine lv_ior hx hb dX7_talk_117 ?_
          refine va_iast (cA := cI) (n := 1020) (f := (upd ((f_X7_minds w undoes).1) ((61 + ((6 * other) + person)).toNatClampNeg) (((((f_X7_minds w undoes).1) ((61 + ((6 * other) + person)).toNatClampNeg)) &&& ((((f_X7_minds w undoes).1) ((37 + ((6 * barber) + person)).toNatClampNeg)) ^^^ (-1))) ||| (((f_X7_minds w undoes).1) ((61 + ((6 * barber) + person)).toNatClampNeg))))) hx hb hK hP hD hS 1 0 rfl rfl ((kb.add (kb.lit 37) (kb.add (kb.mul (c := 6) rfl (kperson hT0 (by decide) c_13)) (kperson hT1 (by decide) c_26))).in (by decide) (by decide)) dX7_talk_118 (fun H locs hP hD hS => ?_)
          have hP : va_P D vwCl (wM cI cZ u (upd (upd ((f_X7_minds w undoes).1) ((61 + ((6 * other) + person)).toNatClampNeg) (((((f_X7_minds w undoes).1) ((61 + ((6 * other) + person)).toNatClampNeg)) &&& ((((f_X7_minds w undoes).1) ((37 + ((6 * barber) + person)).toNatClampNeg)) ^^^ (-1))) ||| (((f_X7_minds w undoes).1) ((61 + ((6 * barber) + person)).toNatClampNeg)))) ((37 + ((6 * other) + person)).toNatClampNeg) (((upd ((f_X7_minds w undoes).1) ((61 + ((6 * other) + person)).toNatClampNeg) (((((f_X7_minds w undoes).1) ((61 + ((6 * other) + person)).toNatClampNeg)) &&& ((((f_X7_minds w undoes).1) ((37 + ((6 * barber) + person)).toNatClampNeg)) ^^^ (-1))) ||| (((f_X7_minds w undoes).1) ((61 + ((6 * barber) + person)).toNatClampNeg)))) ((37 + ((6 * other) + person)).toNatClampNeg)) ||| ((upd ((f_X7_minds w undoes).1) ((61 + ((6 * other) + person)).toNatClampNeg) (((((f_X7_minds w undoes).1) ((61 + ((6 * other) + person)).toNatClampNeg)) &&& ((((f_X7_minds w undoes).1) ((37 + ((6 * barber) + person)).toNatClampNeg)) ^^^ (-1))) ||| (((f_X7_minds w undoes).1) ((61 + ((6 * barber) + person)).toNatClampNeg)))) ((37 + ((6 * barber) + person)).toNatClampNeg)))) told read isK ((f_X7_minds w undoes).2) text texted seen seS seB seP at_ start clauses number word) H := hP
          have hD : va_D A (wM cI cZ u (upd (upd ((f_X7_minds w undoes).1) ((61 + ((6 * other) + person)).toNatClampNeg) (((((f_X7_minds w undoes).1) ((61 + ((6 * other) + person)).toNatClampNeg)) &&& ((((f_X7_minds w undoes).1) ((37 + ((6 * barber) + person)).toNatClampNeg)) ^^^ (-1))) ||| (((f_X7_minds w undoes).1) ((61 + ((6 * barber) + person)).toNatClampNeg)))) ((37 + ((6 * other) + person)).toNatClampNeg) (((upd ((f_X7_minds w undoes).1) ((61 + ((6 * other) + person)).toNatClampNeg) (((((f_X7_minds w undoes).1) ((61 + ((6 * other) + person)).toNatClampNeg)) &&& ((((f_X7_minds w undoes).1) ((37 + ((6 * barber) + person)).toNatClampNeg)) ^^^ (-1))) ||| (((f_X7_minds w undoes).1) ((61 + ((6 * barber) + person)).toNatClampNeg)))) ((37 + ((6 * other) + person)).toNatClampNeg)) ||| ((upd ((f_X7_minds w undoes).1) ((61 + ((6 * other) + person)).toNatClampNeg) (((((f_X7_minds w undoes).1) ((61 + ((6 * other) + person)).toNatClampNeg)) &&& ((((f_X7_minds w undoes).1) ((37 + ((6 * barber) + person)).toNatClampNeg)) ^^^ (-1))) ||| (((f_X7_minds w undoes).1) ((61 + ((6 * barber) + person)).toNatClampNeg)))) ((37 + ((6 * barber) + person)).toNatClampNeg)))) told read isK ((f_X7_minds w undoes).2) text texted seen seS seB seP at_ start clauses number word) := hD
          refine lv_aload_n hx hb dX7_talk_119 rfl (lv_at hl 2 rfl) ?_
          refine va_get (D := D) (ci := 7) (v := .ref (u 1)) (C := RX7) (T := TX7) (N := 16) hx hb hts inlX7 hown hK hP 0 rfl rfl 0 (by decide) (kw hts kin_4 22 rfl) (fun _ h9 => h9) rfl dX7_talk_120 ?_
          refine lv_bipush (v := 37) hx hb dX7_talk_123 (by decide) ?_
          refine lv_iload hx hb dX7_talk_125 (lv_at hl 0 rfl) ?_
          refine lv_iadd hx hb dX7_talk_127 ?_
          refine va_iald (cA := cI) (n := 1020) (f := (upd (upd ((f_X7_minds w undoes).1) ((61 + ((6 * other) + person)).toNatClampNeg) (((((f_X7_minds w undoes).1) ((61 + ((6 * other) + person)).toNatClampNeg)) &&& ((((f_X7_minds w undoes).1) ((37 + ((6 * barber) + person)).toNatClampNeg)) ^^^ (-1))) ||| (((f_X7_minds w undoes).1) ((61 + ((6 * barber) + person)).toNatClampNeg)))) ((37 + ((6 * other) + person)).toNatClampNeg) (((upd ((f_X7_minds w undoes).1) ((61 + ((6 * other) + person)).toNatClampNeg) (((((f_X7_minds w undoes).1) ((61 + ((6 * other) + person)).toNatClampNeg)) &&& ((((f_X7_minds w undoes).1) ((37 + ((6 * barber) + person)).toNatClampNeg)) ^^^ (-1))) ||| (((f_X7_minds w undoes).1) ((61 + ((6 * barber) + person)).toNatClampNeg)))) ((37 + ((6 * other) + person)).toNatClampNeg)) ||| ((upd ((f_X7_minds w undoes).1) ((61 + ((6 * other) + person)).toNatClampNeg) (((((f_X7_minds w undoes).1) ((61 + ((6 * other) + person)).toNatClampNeg)) &&& ((((f_X7_minds w undoes).1) ((37 + ((6 * barber) + person)).toNatClampNeg)) ^^^ (-1))) ||| (((f_X7_minds w undoes).1) ((61 + ((6 * barber) + person)).toNatClampNeg)))) ((37 + ((6 * barber) + person)).toNatClampNeg))))) hx hb hK hP 1 0 rfl rfl ((kb.add (kb.lit 37) (kb.add (kb.mul (c := 6) rfl (kperson hT0 (by decide) c_13)) (kperson hT1 (by decide) c_26))).in (by decide) (by decide)) dX7_talk_128 ?_
          have hf : (f_X7_talk w told undoes barber other person) = (((upd (upd ((f_X7_minds w undoes).1) ((61 + ((6 * other) + person)).toNatClampNeg) (((((f_X7_minds w undoes).1) ((61 + ((6 * other) + person)).toNatClampNeg)) &&& ((((f_X7_minds w undoes).1) ((37 + ((6 * barber) + person)).toNatClampNeg)) ^^^ (-1))) ||| (((f_X7_minds w undoes).1) ((61 + ((6 * barber) + person)).toNatClampNeg)))) ((37 + ((6 * other) + person)).toNatClampNeg) (((upd ((f_X7_minds w undoes).1) ((61 + ((6 * other) + person)).toNatClampNeg) (((((f_X7_minds w undoes).1) ((61 + ((6 * other) + person)).toNatClampNeg)) &&& ((((f_X7_minds w undoes).1) ((37 + ((6 * barber) + person)).toNatClampNeg)) ^^^ (-1))) ||| (((f_X7_minds w undoes).1) ((61 + ((6 * barber) + person)).toNatClampNeg)))) ((37 + ((6 * other) + person)).toNatClampNeg)) ||| ((upd ((f_X7_minds w undoes).1) ((61 + ((6 * other) + person)).toNatClampNeg) (((((f_X7_minds w undoes).1) ((61 + ((6 * other) + person)).toNatClampNeg)) &&& ((((f_X7_minds w undoes).1) ((37 + ((6 * barber) + person)).toNatClampNeg)) ^^^ (-1))) ||| (((f_X7_minds w undoes).1) ((61 + ((6 * barber) + person)).toNatClampNeg)))) ((37 + ((6 * barber) + person)).toNatClampNeg)))) ((37 + ((6 * other) + person)).toNatClampNeg)), (upd (upd ((f_X7_minds w undoes).1) ((61 + ((6 * other) + person)).toNatClampNeg) (((((f_X7_minds w undoes).1) ((61 + ((6 * other) + person)).toNatClampNeg)) &&& ((((f_X7_minds w undoes).1) ((37 + ((6 * barber) + person)).toNatClampNeg)) ^^^ (-1))) ||| (((f_X7_minds w undoes).1) ((61 + ((6 * barber) + person)).toNatClampNeg)))) ((37 + ((6 * other) + person)).toNatClampNeg) (((upd ((f_X7_minds w undoes).1) ((61 + ((6 * other) + person)).toNatClampNeg) (((((f_X7_minds w undoes).1) ((61 + ((6 * other) + person)).toNatClampNeg)) &&& ((((f_X7_minds w undoes).1) ((37 + ((6 * barber) + person)).toNatClampNeg)) ^^^ (-1))) ||| (((f_X7_minds w undoes).1) ((61 + ((6 * barber) + person)).toNatClampNeg)))) ((37 + ((6 * other) + person)).toNatClampNeg)) ||| ((upd ((f_X7_minds w undoes).1) ((61 + ((6 * other) + person)).toNatClampNeg) (((((f_X7_minds w undoes).1) ((61 + ((6 * other) + person)).toNatClampNeg)) &&& ((((f_X7_minds w undoes).1) ((37 + ((6 * barber) + person)).toNatClampNeg)) ^^^ (-1))) ||| (((f_X7_minds w undoes).1) ((61 + ((6 * barber) + person)).toNatClampNeg)))) ((37 + ((6 * barber) + person)).toNatClampNeg)))), (f_X7_minds w undoes).2) := ((if_neg c_5).trans ((if_neg c_13).trans ((if_neg c_18).trans (if_neg c_26))))
          rw [hf] at hret
          dsimp only at hret
          exact hret _ _ _ _ hP hS dX7_talk_129
        · skip
          refine lv_bipush (v := (-2)) hx hb dX7_talk_29 (by decide) ?_
          have hf : (f_X7_talk w told undoes barber other person) = ((-2), w, undoes) := ((if_neg c_5).trans ((if_neg c_13).trans ((if_neg c_18).trans (if_pos c_26))))
          rw [hf] at hret
          dsimp only at hret
          exact hret _ _ _ _ hP hS dX7_talk_31
