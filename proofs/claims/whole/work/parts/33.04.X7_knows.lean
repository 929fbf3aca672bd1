def v_X7_knows_28_0 (w : Nat → Int32) (told : Nat → Int32) (barber : Int32) (person : Int32) (what : Int32) : Int32 := if what = 0 then (w ((37 + ((6 * barber) + person)).toNatClampNeg)) else (if what = 1 then (w ((61 + ((6 * barber) + person)).toNatClampNeg)) else (if what = 2 then (f_X7_fitsOf w told 0 barber person) else (-3)))
def f_X7_knows (w : Nat → Int32) (told : Nat → Int32) (barber : Int32) (person : Int32) (what : Int32) : Int32 := if (f_X7_isBarber told barber) = 0 then (-2) else (if (f_X7_isPerson told person) = 0 then (-2) else (v_X7_knows_28_0 w told barber person what))
abbrev rm_X7_knows : Room := { frames := 2, cells := 0, slots := 0, locals := 48 }
set_option maxRecDepth 100000 in
set_option maxHeartbeats 4000000 in
theorem k_X7_knows (l : Launch) (D : va_G) (cI cZ : ClassId) (u : Nat → Nat) (w : Nat → Int32) (told : Nat → Int32) (read : Nat → Int32) (isK : Nat → Int32) (undoes : Int32) (text : Nat → Int32) (texted : Int32) (seen : Int32) (seS : Nat → Int32) (seB : Nat → Int32) (seP : Nat → Int32) (at_ : Int32) (start : Int32) (clauses : Int32) (number : Int32) (word : Int64) (barber : Int32) (person : Int32) (what : Int32) (hT0 : kb (told 0) 1 5) (hT1 : kb (told 1) 0 7) (hT2 : kb (told 2) 0 9) : CI l D (kTy cI cZ) kT yX7_knows (.code yX7_knows cX7_knows 5 (some .int) :: wsL_law) rm_X7_knows [.ref (u 0), .int barber, .int person, .int what] (wM cI cZ u w told read isK undoes text texted seen seS seB seP at_ start clauses number word) (wM cI cZ u w told read isK undoes text texted seen seS seB seP at_ start clauses number word) (f_X7_knows w told barber person what) := by
  refine CI.of (cc := cX7_knows) (maxL := 5) (ty := .int) (by decide) rfl (Nat.le_of_ble_eq_true rfl) rfl ?_
  intro p e s m args below meth c A Q ls hx hb hml hts0 hown hA hP hK hD hE hl hret
  have hts : ∀ w ∈ wsL_law, w.before args s = true := fun w h => hts0 w (List.mem_cons_of_mem _ h)
  clear hts0
  have hown : s.vm.findClass RX7 = some m.cls := hown
  have hl : lv_has ls 5 [(0, .ref (u 0)), (1, .int barber), (2, .int person), (3, .int what)] := hl
  have hS : va_S A s.heap s.heap [] := va_S.rf
  revert hP hS
  suffices hgo : ∀ (H : Heap) (locs : List Loc), va_P D vwCl (wM cI cZ u w told read isK undoes text texted seen seS seB seP at_ start clauses number word) H → va_S A s.heap H locs → W p l e rm_X7_knows s m args below meth c H locs 0 0 Q (F0 m 0 ls []) from fun a b => hgo _ _ a b
  intro H locs hP hS
  refine lv_aload_n hx hb dX7_knows_0 rfl (lv_at hl 0 rfl) ?_
  refine lv_iload_n hx hb dX7_knows_1 rfl (lv_at hl 1 rfl) ?_
  refine kvi (As := [.int barber]) (rest := []) (q0 := 0) (ci := 7) ⟨hx, hb, hml, hown, hts⟩ hP hK hD hS hA hE (k_X7_isBarber l D cI cZ  u w told read isK undoes text texted seen seS seB seP at_ start clauses number word barber) (kcv hts kM_X7_isBarber (kin_21 _ (List.mem_of_getElem? (i := 8) rfl)) ⟨rfl, rfl⟩ ⟨Nat.le_of_ble_eq_true rfl, Nat.le_of_ble_eq_true rfl⟩) kBl_T kOk_T (wM cI cZ u w told read isK undoes text texted seen seS seB seP at_ start clauses number word) (cut_m_m cI cZ u w told read isK undoes text texted seen seS seB seP at_ start clauses number word w told read isK undoes text texted seen seS seB seP at_ start clauses number word).1 (cut_m_m cI cZ u w told read isK undoes text texted seen seS seB seP at_ start clauses number word w told read isK undoes text texted seen seS seB seP at_ start clauses number word).2 rfl rfl rfl rfl hl.1 rfl (Nat.le_of_ble_eq_true rfl) dX7_knows_2 (fun H locs hP hD hS => ?_)
  refine lv_if_eq (tgt := 16) hx hb dX7_knows_5 (by decide) (fun c_5 => ?_) (fun c_5 => ?_)
  · skip
    refine lv_bipush (v := (-2)) hx hb dX7_knows_16 (by decide) ?_
    have hf : (f_X7_knows w told barber person what) = (-2) := (if_pos c_5)
    rw [hf] at hret
    exact hret _ _ _ _ hP hS dX7_knows_18
  · skip
    refine lv_aload_n hx hb dX7_knows_8 rfl (lv_at hl 0 rfl) ?_
    refine lv_iload_n hx hb dX7_knows_9 rfl (lv_at hl 2 rfl) ?_
    refine kvi (As := [.int person]) (rest := []) (q0 := 0) (ci := 7) ⟨hx, hb, hml, hown, hts⟩ hP hK hD hS hA hE (k_X7_isPerson l D cI cZ  u w told read isK undoes text texted seen seS seB seP at_ start clauses number word person) (kcv hts kM_X7_isPerson (kin_18 _ (List.mem_of_getElem? (i := 6) rfl)) ⟨rfl, rfl⟩ ⟨Nat.le_of_ble_eq_true rfl, Nat.le_of_ble_eq_true rfl⟩) kBl_T kOk_T (wM cI cZ u w told read isK undoes text texted seen seS seB seP at_ start clauses number word) (cut_m_m cI cZ u w told read isK undoes text texted seen seS seB seP at_ start clauses number word w told read isK undoes text texted seen seS seB seP at_ start clauses number word).1 (cut_m_m cI cZ u w told read isK undoes text texted seen seS seB seP at_ start clauses number word w told read isK undoes text texted seen seS seB seP at_ start clauses number word).2 rfl rfl rfl rfl hl.1 rfl (Nat.le_of_ble_eq_true rfl) dX7_knows_10 (fun H locs hP hD hS => ?_)
    refine lv_if_ne (tgt := 19) hx hb dX7_knows_13 (by decide) (fun c_13 => ?_) (fun c_13 => ?_)
    · skip
      refine lv_bipush (v := 6) hx hb dX7_knows_19 (by decide) ?_
      refine lv_iload_n hx hb dX7_knows_21 rfl (lv_at hl 1 rfl) ?_
      refine lv_imul hx hb dX7_knows_22 ?_
      refine lv_iload_n hx hb dX7_knows_23 rfl (lv_at hl 2 rfl) ?_
      refine lv_iadd hx hb dX7_knows_24 ?_
      refine lv_istore (lv' := [(4, .int ((6 * barber) + person)), (0, .ref (u 0)), (1, .int barber), (2, .int person), (3, .int what)]) hx hb dX7_knows_25 hl (by decide) rfl (fun ls hl => ?_)
      refine lv_iload_n hx hb dX7_knows_27 rfl (lv_at hl 4 rfl) ?_
      have J28 : ∀ (H : Heap) (locs : List Loc) (ls : Array Slot), va_P D vwCl (wM cI cZ u w told read isK undoes text texted seen seS seB seP at_ start clauses number word) H → va_D A (wM cI cZ u w told read isK undoes text texted seen seS seB seP at_ start clauses number word) → va_S A s.heap H locs → lv_has ls 5 [(0, .ref (u 0)), (1, .int barber), (2, .int person), (3, .int what), (4, .int ((6 * barber) + person))] → W p l e rm_X7_knows s m args below meth c H locs 0 0 Q (F0 m 79 ls [.int (v_X7_knows_28_0 w told barber person what)]) := by
        intro H locs ls hP hD hS hl
        have hf : (f_X7_knows w told barber person what) = (v_X7_knows_28_0 w told barber person what) := ((if_neg c_5).trans (if_neg c_13))
        rw [hf] at hret
        exact hret _ _ _ _ hP hS dX7_knows_79
      refine lv_if_ne (tgt := 44) hx hb dX7_knows_28 (by decide) (fun c_28 => ?_) (fun c_28 => ?_)
      · skip
        refine lv_iload_n hx hb dX7_knows_44 rfl (lv_at hl 4 rfl) ?_
        refine lv_iconst (v := 1) hx hb dX7_knows_45 (by decide) ?_
        refine lv_icmp_ne (tgt := 62) hx hb dX7_knows_46 (by decide) (fun c_46 => ?_) (fun c_46 => ?_)
        · skip
          refine lv_iload_n hx hb dX7_knows_62 rfl (lv_at hl 4 rfl) ?_
          refine lv_iconst (v := 2) hx hb dX7_knows_63 (by decide) ?_
          refine lv_icmp_ne (tgt := 77) hx hb dX7_knows_64 (by decide) (fun c_64 => ?_) (fun c_64 => ?_)
          · skip
            refine lv_bipush (v := (-3)) hx hb dX7_knows_77 (by decide) ?_
            rw [show (v_X7_knows_28_0 w told barber person what) = (-3) from ((if_neg c_28).trans ((if_neg c_46).trans (if_neg c_64)))] at J28
            exact J28 _ _ _ hP hD hS (lv_sub hl [1, 2, 3, 4, 0] rfl)
          · skip
            refine lv_aload_n hx hb dX7_knows_67 rfl (lv_at hl 1 rfl) ?_
            refine lv_iconst (v := 0) hx hb dX7_knows_68 (by decide) ?_
            refine lv_iload_n hx hb dX7_knows_69 rfl (lv_at hl 2 rfl) ?_
            refine lv_iload_n hx hb dX7_knows_70 rfl (lv_at hl 3 rfl) ?_
            refine kvi (As := [.int 0, .int barber, .int person]) (rest := []) (q0 := 0) (ci := 7) ⟨hx, hb, hml, hown, hts⟩ hP hK hD hS hA hE (k_X7_fitsOf l D cI cZ  u w told read isK undoes text texted seen seS seB seP at_ start clauses number word 0 barber person ((kb.lit 0).wide (by decide) (by decide)) ((kperson hT0 (by decide) c_5).wide (by decide) (by decide)) ((kperson hT1 (by decide) c_13).wide (by decide) (by decide)) (hT2.wide (by decide) (by decide))) (kcv hts kM_X7_fitsOf (kin_21 _ (List.mem_of_getElem? (i := 12) rfl)) ⟨rfl, rfl⟩ ⟨Nat.le_of_ble_eq_true rfl, Nat.le_of_ble_eq_true rfl⟩) kBl_T kOk_T (wM cI cZ u w told read isK undoes text texted seen seS seB seP at_ start clauses number word) (cut_m_m cI cZ u w told read isK undoes text texted seen seS seB seP at_ start clauses number word w told read isK undoes text texted seen seS seB seP at_ start clauses number word).1 (cut_m_m cI cZ u w told read isK undoes text texted seen seS seB seP at_ start clauses number word w told read isK undoes text texted seen seS seB seP at_ start clauses number word).2 rfl rfl rfl rfl hl.1 rfl (Nat.le_of_ble_eq_true rfl) dX7_knows_71 (fun H locs hP hD hS => ?_)
            refine lv_goto (tgt := 79) hx hb dX7_knows_74 (by decide) ?_
            rw [show (v_X7_knows_28_0 w told barber person what) = (f_X7_fitsOf w told 0 barber person) from ((if_neg c_28).trans ((if_neg c_46).trans (if_pos c_64)))] at J28
            exact J28 _ _ _ hP hD hS (lv_sub hl [1, 2, 3, 4, 0] rfl)
        · skip
          refine lv_aload_n hx hb dX7_knows_49 rfl (lv_at hl 1 rfl) ?_
          refine va_get (D := D) (ci := 7) (v := .ref (u 1)) (C := RX7) (T := TX7) (N := 16) hx hb hts inlX7 hown hK hP 0 rfl rfl 0 (by decide) (kw hts kin_4 22 rfl) (fun _ h9 => h9) rfl dX7_knows_50 ?_
          refine lv_bipush (v := 61) hx hb dX7_knows_53 (by decide) ?_
          refine lv_iload hx hb dX7_knows_55 (lv_at hl 0 rfl) ?_
          refine lv_iadd hx hb dX7_knows_57 ?_
          refine va_iald (cA := cI) (n := 1020) (f := w) hx hb hK hP 1 0 rfl rfl ((kb.add (kb.lit 61) (kb.add (kb.mul (c := 6) rfl (kperson hT0 (by decide) c_5)) (kperson hT1 (by decide) c_13))).in (by decide) (by decide)) dX7_knows_58 ?_
          refine lv_goto (tgt := 79) hx hb dX7_knows_59 (by decide) ?_
          rw [show (v_X7_knows_28_0 w told barber person what) = (w ((61 + ((6 * barber) + person)).toNatClampNeg)) from ((if_neg c_28).trans (if_pos c_46))] at J28
          exact J28 _ _ _ hP hD hS (lv_sub hl [1, 2, 3, 4, 0] rfl)
      · skip
        refine lv_aload_n hx hb dX7_knows_31 rfl (lv_at hl 1 rfl) ?_
        refine va_get (D := D) (ci := 7) (v := .ref (u 1)) (C := RX7) (T := TX7) (N := 16) hx hb hts inlX7 hown hK hP 0 rfl rfl 0 (by decide) (kw hts kin_4 22 rfl) (fun _ h9 => h9) rfl dX7_knows_32 ?_
        refine lv_bipush (v := 37) hx hb dX7_knows_35 (by decide) ?_
        refine lv_iload hx hb dX7_knows_37 (lv_at hl 0 rfl) ?_
        refine lv_iadd hx hb dX7_knows_39 ?_
        refine va_iald (cA := cI) (n := 1020) (f := w) hx hb hK hP 1 0 rfl rfl ((kb.add (kb.lit 37) (kb.add (kb.mul (c := 6) rfl (kperson hT0 (by decide) c_5)) (kperson hT1 (by decide) c_13))).in (by decide) (by decide)) dX7_knows_40 ?_
        refine lv_goto (tgt := 79) hx hb dX7_knows_41 (by decide) ?_
        rw [show (v_X7_knows_28_0 w told barber person what) = (w ((37 + ((6 * barber) + person)).toNatClampNeg)) from (if_pos c_28)] at J28
        exact J28 _ _ _ hP hD hS (lv_sub hl [1, 2, 3, 4, 0] rfl)
    · skip
      refine lv_bipush (v := (-2)) hx hb dX7_knows_16 (by decide) ?_
      have hf : (f_X7_knows w told barber person what) = (-2) := ((if_neg c_5).trans (if_pos c_13))
      rw [hf] at hret
      exact hret _ _ _ _ hP hS dX7_knows_18
