def f_X7_seen (seen : Int32) (seS : Nat → Int32) (seB : Nat → Int32) (seP : Nat → Int32) (strip : Int32) (beard : Int32) (part : Int32) : Int32 × Int32 × (Nat → Int32) × (Nat → Int32) × (Nat → Int32) := if (f_X7_isStrip strip) = 0 then ((-2), seen, seS, seB, seP) else (if (f_X7_in beard.toInt64 0 9) = 0 then ((-3), seen, seS, seB, seP) else (if (f_X7_in part.toInt64 (-1) 1) = 0 then ((-3), seen, seS, seB, seP) else (if seen = 6 then ((-5), seen, seS, seB, seP) else ((seen + 1), (seen + 1), (upd seS seen.toNatClampNeg strip), (upd seB seen.toNatClampNeg beard), (upd seP seen.toNatClampNeg part)))))
abbrev rm_X7_seen : Room := { frames := 2, cells := 0, slots := 0, locals := 45 }
set_option maxRecDepth 100000 in
set_option maxHeartbeats 4000000 in
theorem k_X7_seen (l : Launch) (D : va_G) (cI cZ : ClassId) (u : Nat → Nat) (w : Nat → Int32) (told : Nat → Int32) (read : Nat → Int32) (isK : Nat → Int32) (undoes : Int32) (text : Nat → Int32) (texted : Int32) (seen : Int32) (seS : Nat → Int32) (seB : Nat → Int32) (seP : Nat → Int32) (at_ : Int32) (start : Int32) (clauses : Int32) (number : Int32) (word : Int64) (strip : Int32) (beard : Int32) (part : Int32) (h_seen : kb seen 0 7) : CI l D (kTy cI cZ) kT yX7_seen (.code yX7_seen cX7_seen 4 (some .int) :: wsL_law) rm_X7_seen [.ref (u 0), .int strip, .int beard, .int part] (wM cI cZ u w told read isK undoes text texted seen seS seB seP at_ start clauses number word) (wM cI cZ u w told read isK undoes text texted ((f_X7_seen seen seS seB seP strip beard part).2.1) ((f_X7_seen seen seS seB seP strip beard part).2.2.1) ((f_X7_seen seen seS seB seP strip beard part).2.2.2.1) ((f_X7_seen seen seS seB seP strip beard part).2.2.2.2) at_ start clauses number word) ((f_X7_seen seen seS seB seP strip beard part).1) := by
  refine CI.of (cc := cX7_seen) (maxL := 4) (ty := .int) (by decide) rfl (Nat.le_of_ble_eq_true rfl) rfl ?_
  intro p e s m args below meth c A Q ls hx hb hml hts0 hown hA hP hK hD hE hl hret
  have hts : ∀ w ∈ wsL_law, w.before args s = true := fun w h => hts0 w (List.mem_cons_of_mem _ h)
  clear hts0
  have hown : s.vm.findClass RX7 = some m.cls := hown
  have hl : lv_has ls 4 [(0, .ref (u 0)), (1, .int strip), (2, .int beard), (3, .int part)] := hl
  have hS : va_S A s.heap s.heap [] := va_S.rf
  revert hP hS
  suffices hgo : ∀ (H : Heap) (locs : List Loc), va_P D vwCl (wM cI cZ u w told read isK undoes text texted seen seS seB seP at_ start clauses number word) H → va_S A s.heap H locs → W p l e rm_X7_seen s m args below meth c H locs 0 0 Q (F0 m 0 ls []) from fun a b => hgo _ _ a b
  intro H locs hP hS
  refine lv_iload_n hx hb dX7_seen_0 rfl (lv_at hl 1 rfl) ?_
  refine ksi (As := [.int strip]) (rest := []) ⟨hx, hb, hml, hown, hts⟩ hP hK hD hS hA hE (k_X7_isStrip l D cI cZ  strip) (kcs hts kM_X7_isStrip (kin_19 _ (List.mem_of_getElem? (i := 6) rfl)) ⟨rfl, rfl⟩ ⟨Nat.le_of_ble_eq_true rfl, Nat.le_of_ble_eq_true rfl⟩) kBl_T kOk_T rfl hl.1 rfl (Nat.le_of_ble_eq_true rfl) dX7_seen_1 (fun H locs hP hD hS => ?_)
  refine lv_if_ne (tgt := 10) hx hb dX7_seen_4 (by decide) (fun c_4 => ?_) (fun c_4 => ?_)
  · skip
    refine lv_iload_n hx hb dX7_seen_10 rfl (lv_at hl 2 rfl) ?_
    refine lv_i2l (v := beard.toInt64) hx hb dX7_seen_11 rfl ?_
    refine lv_lconst (v := 0) hx hb dX7_seen_12 (by decide) ?_
    refine lv_ldc2 (v := 9) hx hb hown (kw hts kin_31 20 rfl) dX7_seen_13 ?_
    refine ksi (As := [.long beard.toInt64, .long 0, .long 9]) (rest := []) ⟨hx, hb, hml, hown, hts⟩ hP hK hD hS hA hE (k_X7_in l D cI cZ  beard.toInt64 0 9) (kcs hts kM_X7_in (kin_6 _ (List.mem_of_getElem? (i := 6) rfl)) ⟨rfl, rfl⟩ ⟨Nat.le_of_ble_eq_true rfl, Nat.le_of_ble_eq_true rfl⟩) kBl_T kOk_T rfl hl.1 rfl (Nat.le_of_ble_eq_true rfl) dX7_seen_16 (fun H locs hP hD hS => ?_)
    refine lv_if_eq (tgt := 34) hx hb dX7_seen_19 (by decide) (fun c_19 => ?_) (fun c_19 => ?_)
    · skip
      refine lv_bipush (v := (-3)) hx hb dX7_seen_34 (by decide) ?_
      have hf : (f_X7_seen seen seS seB seP strip beard part) = ((-3), seen, seS, seB, seP) := ((if_neg c_4).trans (if_pos c_19))
      rw [hf] at hret
      dsimp only at hret
      exact hret _ _ _ _ hP hS dX7_seen_36
    · skip
      refine lv_iload_n hx hb dX7_seen_22 rfl (lv_at hl 3 rfl) ?_
      refine lv_i2l (v := part.toInt64) hx hb dX7_seen_23 rfl ?_
      refine lv_ldc2 (v := (-1)) hx hb hown (kw hts kin_31 21 rfl) dX7_seen_24 ?_
      refine lv_lconst (v := 1) hx hb dX7_seen_27 (by decide) ?_
      refine ksi (As := [.long part.toInt64, .long (-1), .long 1]) (rest := []) ⟨hx, hb, hml, hown, hts⟩ hP hK hD hS hA hE (k_X7_in l D cI cZ  part.toInt64 (-1) 1) (kcs hts kM_X7_in (kin_6 _ (List.mem_of_getElem? (i := 6) rfl)) ⟨rfl, rfl⟩ ⟨Nat.le_of_ble_eq_true rfl, Nat.le_of_ble_eq_true rfl⟩) kBl_T kOk_T rfl hl.1 rfl (Nat.le_of_ble_eq_true rfl) dX7_seen_28 (fun H locs hP hD hS => ?_)
      refine lv_if_ne (tgt := 37) hx hb dX7_seen_31 (by decide) (fun c_31 => ?_) (fun c_31 => ?_)
      · skip
        refine lv_aload_n hx hb dX7_seen_37 rfl (lv_at hl 0 rfl) ?_
        refine va_get (D := D) (ci := 7) (v := .int seen) (C := RX7) (T := TX7) (N := 16) hx hb hts inlX7 hown hK hP 0 rfl rfl 7 (by decide) (kw hts kin_16 19 rfl) (fun _ h9 => h9) rfl dX7_seen_38 ?_
        refine lv_bipush (v := 6) hx hb dX7_seen_41 (by decide) ?_
        refine lv_icmp_ne (tgt := 49) hx hb dX7_seen_43 (by decide) (fun c_43 => ?_) (fun c_43 => ?_)
        · skip
          refine lv_aload_n hx hb dX7_seen_49 rfl (lv_at hl 0 rfl) ?_
          refine va_get (D := D) (ci := 7) (v := .ref (u 6)) (C := RX7) (T := TX7) (N := 16) hx hb hts inlX7 hown hK hP 0 rfl rfl 8 (by decide) (kw hts kin_5 4 rfl) (fun _ h9 => h9) rfl dX7_seen_50 ?_
          refine lv_aload_n hx hb dX7_seen_53 rfl (lv_at hl 0 rfl) ?_
          refine va_get (D := D) (ci := 7) (v := .int seen) (C := RX7) (T := TX7) (N := 16) hx hb hts inlX7 hown hK hP 0 rfl rfl 7 (by decide) (kw hts kin_16 19 rfl) (fun _ h9 => h9) rfl dX7_seen_54 ?_
          refine lv_iload_n hx hb dX7_seen_57 rfl (lv_at hl 1 rfl) ?_
          refine va_iast (cA := cI) (n := 6) (f := seS) hx hb hK hP hD hS 6 0 rfl rfl ((kne h_seen (by decide) c_43).in (by decide) (by decide)) dX7_seen_58 (fun H locs hP hD hS => ?_)
          have hP : va_P D vwCl (wM cI cZ u w told read isK undoes text texted seen (upd seS seen.toNatClampNeg strip) seB seP at_ start clauses number word) H := hP
          have hD : va_D A (wM cI cZ u w told read isK undoes text texted seen (upd seS seen.toNatClampNeg strip) seB seP at_ start clauses number word) := hD
          refine lv_aload_n hx hb dX7_seen_59 rfl (lv_at hl 0 rfl) ?_
          refine va_get (D := D) (ci := 7) (v := .ref (u 7)) (C := RX7) (T := TX7) (N := 16) hx hb hts inlX7 hown hK hP 0 rfl rfl 9 (by decide) (kw hts kin_5 5 rfl) (fun _ h9 => h9) rfl dX7_seen_60 ?_
          refine lv_aload_n hx hb dX7_seen_63 rfl (lv_at hl 0 rfl) ?_
          refine va_get (D := D) (ci := 7) (v := .int seen) (C := RX7) (T := TX7) (N := 16) hx hb hts inlX7 hown hK hP 0 rfl rfl 7 (by decide) (kw hts kin_16 19 rfl) (fun _ h9 => h9) rfl dX7_seen_64 ?_
          refine lv_iload_n hx hb dX7_seen_67 rfl (lv_at hl 2 rfl) ?_
          refine va_iast (cA := cI) (n := 6) (f := seB) hx hb hK hP hD hS 7 0 rfl rfl ((kne h_seen (by decide) c_43).in (by decide) (by decide)) dX7_seen_68 (fun H locs hP hD hS => ?_)
          have hP : va_P D vwCl (wM cI cZ u w told read isK undoes text texted seen (upd seS seen.toNatClampNeg strip) (upd seB seen.toNatClampNeg beard) seP at_ start clauses number word) H := hP
          have hD : va_D A (wM cI cZ u w told read isK undoes text texted seen (upd seS seen.toNatClampNeg strip) (upd seB seen.toNatClampNeg beard) seP at_ start clauses number word) := hD
          refine lv_aload_n hx hb dX7_seen_69 rfl (lv_at hl 0 rfl) ?_
          refine va_get (D := D) (ci := 7) (v := .ref (u 8)) (C := RX7) (T := TX7) (N := 16) hx hb hts inlX7 hown hK hP 0 rfl rfl 10 (by decide) (kw hts kin_5 6 rfl) (fun _ h9 => h9) rfl dX7_seen_70 ?_
          refine lv_aload_n hx hb dX7_seen_73 rfl (lv_at hl 0 rfl) ?_
          refine va_get (D := D) (ci := 7) (v := .int seen) (C := RX7) (T := TX7) (N := 16) hx hb hts inlX7 hown hK hP 0 rfl rfl 7 (by decide) (kw hts kin_16 19 rfl) (fun _ h9 => h9) rfl dX7_seen_74 ?_
          refine lv_iload_n hx hb dX7_seen_77 rfl (lv_at hl 3 rfl) ?_
          refine va_iast (cA := cI) (n := 6) (f := seP) hx hb hK hP hD hS 8 0 rfl rfl ((kne h_seen (by decide) c_43).in (by decide) (by decide)) dX7_seen_78 (fun H locs hP hD hS => ?_)
          have hP : va_P D vwCl (wM cI cZ u w told read isK undoes text texted seen (upd seS seen.toNatClampNeg strip) (upd seB seen.toNatClampNeg beard) (upd seP seen.toNatClampNeg part) at_ start clauses number word) H := hP
          have hD : va_D A (wM cI cZ u w told read isK undoes text texted seen (upd seS seen.toNatClampNeg strip) (upd seB seen.toNatClampNeg beard) (upd seP seen.toNatClampNeg part) at_ start clauses number word) := hD
          refine lv_aload_n hx hb dX7_seen_79 rfl (lv_at hl 0 rfl) ?_
          refine lv_dup hx hb dX7_seen_80 rfl ?_
          refine va_get (D := D) (ci := 7) (v := .int seen) (C := RX7) (T := TX7) (N := 16) hx hb hts inlX7 hown hK hP 0 rfl rfl 7 (by decide) (kw hts kin_16 19 rfl) (fun _ h9 => h9) rfl dX7_seen_81 ?_
          refine lv_iconst (v := 1) hx hb dX7_seen_84 (by decide) ?_
          refine lv_iadd hx hb dX7_seen_85 ?_
          refine va_put (D := D) (ci := 7) (v := .int (seen + 1)) (ty := .int) (C := RX7) (T := TX7) (N := 16) hx hb hts inlX7 tyX7 tyX7_ok nmX7 hown hK hP hD hS 0 rfl rfl 7 (by decide) (kw hts kin_16 19 rfl) (fun _ h9 => h9) rfl (by decide +kernel) rfl rfl (Nat.le_of_ble_eq_true rfl) dX7_seen_86 (fun H locs hP hD hS => ?_)
          have hP : va_P D vwCl (wM cI cZ u w told read isK undoes text texted (seen + 1) (upd seS seen.toNatClampNeg strip) (upd seB seen.toNatClampNeg beard) (upd seP seen.toNatClampNeg part) at_ start clauses number word) H := hP
          have hD : va_D A (wM cI cZ u w told read isK undoes text texted (seen + 1) (upd seS seen.toNatClampNeg strip) (upd seB seen.toNatClampNeg beard) (upd seP seen.toNatClampNeg part) at_ start clauses number word) := hD
          refine lv_aload_n hx hb dX7_seen_89 rfl (lv_at hl 0 rfl) ?_
          refine va_get (D := D) (ci := 7) (v := .int (seen + 1)) (C := RX7) (T := TX7) (N := 16) hx hb hts inlX7 hown hK hP 0 rfl rfl 7 (by decide) (kw hts kin_16 19 rfl) (fun _ h9 => h9) rfl dX7_seen_90 ?_
          have hf : (f_X7_seen seen seS seB seP strip beard part) = ((seen + 1), (seen + 1), (upd seS seen.toNatClampNeg strip), (upd seB seen.toNatClampNeg beard), (upd seP seen.toNatClampNeg part)) := ((if_neg c_4).trans ((if_neg c_19).trans ((if_neg c_31).trans (if_neg c_43))))
          rw [hf] at hret
          dsimp only at hret
          exact hret _ _ _ _ hP hS dX7_seen_93
        · skip
          refine lv_bipush (v := (-5)) hx hb dX7_seen_46 (by decide) ?_
          have hf : (f_X7_seen seen seS seB seP strip beard part) = ((-5), seen, seS, seB, seP) := ((if_neg c_4).trans ((if_neg c_19).trans ((if_neg c_31).trans (if_pos c_43))))
          rw [hf] at hret
          dsimp only at hret
          exact hret _ _ _ _ hP hS dX7_seen_48
      · skip
        refine lv_bipush (v := (-3)) hx hb dX7_seen_34 (by decide) ?_
        have hf : (f_X7_seen seen seS seB seP strip beard part) = ((-3), seen, seS, seB, seP) := ((if_neg c_4).trans ((if_neg c_19).trans (if_pos c_31)))
        rw [hf] at hret
        dsimp only at hret
        exact hret _ _ _ _ hP hS dX7_seen_36
  · skip
    refine lv_bipush (v := (-2)) hx hb dX7_seen_7 (by decide) ?_
    have hf : (f_X7_seen seen seS seB seP strip beard part) = ((-2), seen, seS, seB, seP) := (if_pos c_4)
    rw [hf] at hret
    dsimp only at hret
    exact hret _ _ _ _ hP hS dX7_seen_9
