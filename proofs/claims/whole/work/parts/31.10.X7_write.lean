def f_X7_write (text : Nat → Int32) (texted : Int32) (letter : Int32) : Int32 × (Nat → Int32) × Int32 := if (f_X7_in letter.toInt64 0 255) = 0 then ((-3), text, texted) else (if texted = 160 then ((-5), text, texted) else ((texted + 1), (upd text texted.toNatClampNeg letter), (texted + 1)))
abbrev rm_X7_write : Room := { frames := 1, cells := 0, slots := 0, locals := 25 }
set_option maxRecDepth 100000 in
set_option maxHeartbeats 4000000 in
theorem k_X7_write (l : Launch) (D : va_G) (cI cZ : ClassId) (u : Nat → Nat) (w : Nat → Int32) (told : Nat → Int32) (read : Nat → Int32) (isK : Nat → Int32) (undoes : Int32) (text : Nat → Int32) (texted : Int32) (seen : Int32) (seS : Nat → Int32) (seB : Nat → Int32) (seP : Nat → Int32) (at_ : Int32) (start : Int32) (clauses : Int32) (number : Int32) (word : Int64) (letter : Int32) (hX : kb texted 0 161) : CI l D (kTy cI cZ) kT yX7_write (.code yX7_write cX7_write 2 (some .int) :: wsL_law) rm_X7_write [.ref (u 0), .int letter] (wM cI cZ u w told read isK undoes text texted seen seS seB seP at_ start clauses number word) (wM cI cZ u w told read isK undoes ((f_X7_write text texted letter).2.1) ((f_X7_write text texted letter).2.2) seen seS seB seP at_ start clauses number word) ((f_X7_write text texted letter).1) := by
  refine CI.of (cc := cX7_write) (maxL := 2) (ty := .int) (by decide) rfl (Nat.le_of_ble_eq_true rfl) rfl ?_
  intro p e s m args below meth c A Q ls hx hb hml hts0 hown hA hP hK hD hE hl hret
  have hts : ∀ w ∈ wsL_law, w.before args s = true := fun w h => hts0 w (List.mem_cons_of_mem _ h)
  clear hts0
  have hown : s.vm.findClass RX7 = some m.cls := hown
  have hl : lv_has ls 2 [(0, .ref (u 0)), (1, .int letter)] := hl
  have hS : va_S A s.heap s.heap [] := va_S.rf
  revert hP hS
  suffices hgo : ∀ (H : Heap) (locs : List Loc), va_P D vwCl (wM cI cZ u w told read isK undoes text texted seen seS seB seP at_ start clauses number word) H → va_S A s.heap H locs → W p l e rm_X7_write s m args below meth c H locs 0 0 Q (F0 m 0 ls []) from fun a b => hgo _ _ a b
  intro H locs hP hS
  refine lv_iload_n hx hb dX7_write_0 rfl (lv_at hl 1 rfl) ?_
  refine lv_i2l (v := letter.toInt64) hx hb dX7_write_1 rfl ?_
  refine lv_lconst (v := 0) hx hb dX7_write_2 (by decide) ?_
  refine lv_ldc2 (v := 255) hx hb hown (kw hts kin_6 4 rfl) dX7_write_3 ?_
  refine ksi (As := [.long letter.toInt64, .long 0, .long 255]) (rest := []) ⟨hx, hb, hml, hown, hts⟩ hP hK hD hS hA hE (k_X7_in l D cI cZ  letter.toInt64 0 255) (kcs hts kM_X7_in (kin_6 _ (List.mem_of_getElem? (i := 6) rfl)) ⟨rfl, rfl⟩ ⟨Nat.le_of_ble_eq_true rfl, Nat.le_of_ble_eq_true rfl⟩) kBl_T kOk_T rfl hl.1 rfl (Nat.le_of_ble_eq_true rfl) dX7_write_6 (fun H locs hP hD hS => ?_)
  refine lv_if_ne (tgt := 15) hx hb dX7_write_9 (by decide) (fun c_9 => ?_) (fun c_9 => ?_)
  · skip
    refine lv_aload_n hx hb dX7_write_15 rfl (lv_at hl 0 rfl) ?_
    refine va_get (D := D) (ci := 7) (v := .int texted) (C := RX7) (T := TX7) (N := 16) hx hb hts inlX7 hown hK hP 0 rfl rfl 6 (by decide) (kw hts kin_6 5 rfl) (fun _ h9 => h9) rfl dX7_write_16 ?_
    refine lv_sipush (v := 160) hx hb dX7_write_19 (by decide) ?_
    refine lv_icmp_ne (tgt := 28) hx hb dX7_write_22 (by decide) (fun c_22 => ?_) (fun c_22 => ?_)
    · skip
      refine lv_aload_n hx hb dX7_write_28 rfl (lv_at hl 0 rfl) ?_
      refine va_get (D := D) (ci := 7) (v := .ref (u 5)) (C := RX7) (T := TX7) (N := 16) hx hb hts inlX7 hown hK hP 0 rfl rfl 5 (by decide) (kw hts kin_5 3 rfl) (fun _ h9 => h9) rfl dX7_write_29 ?_
      refine lv_aload_n hx hb dX7_write_32 rfl (lv_at hl 0 rfl) ?_
      refine va_get (D := D) (ci := 7) (v := .int texted) (C := RX7) (T := TX7) (N := 16) hx hb hts inlX7 hown hK hP 0 rfl rfl 6 (by decide) (kw hts kin_6 5 rfl) (fun _ h9 => h9) rfl dX7_write_33 ?_
      refine lv_iload_n hx hb dX7_write_36 rfl (lv_at hl 1 rfl) ?_
      refine va_iast (cA := cI) (n := 160) (f := text) hx hb hK hP hD hS 5 0 rfl rfl ((kne hX (by decide) c_22).in (by decide) (by decide)) dX7_write_37 (fun H locs hP hD hS => ?_)
      have hP : va_P D vwCl (wM cI cZ u w told read isK undoes (upd text texted.toNatClampNeg letter) texted seen seS seB seP at_ start clauses number word) H := hP
      have hD : va_D A (wM cI cZ u w told read isK undoes (upd text texted.toNatClampNeg letter) texted seen seS seB seP at_ start clauses number word) := hD
      refine lv_aload_n hx hb dX7_write_38 rfl (lv_at hl 0 rfl) ?_
      refine lv_dup hx hb dX7_write_39 rfl ?_
      refine va_get (D := D) (ci := 7) (v := .int texted) (C := RX7) (T := TX7) (N := 16) hx hb hts inlX7 hown hK hP 0 rfl rfl 6 (by decide) (kw hts kin_6 5 rfl) (fun _ h9 => h9) rfl dX7_write_40 ?_
      refine lv_iconst (v := 1) hx hb dX7_write_43 (by decide) ?_
      refine lv_iadd hx hb dX7_write_44 ?_
      refine va_put (D := D) (ci := 7) (v := .int (texted + 1)) (ty := .int) (C := RX7) (T := TX7) (N := 16) hx hb hts inlX7 tyX7 tyX7_ok nmX7 hown hK hP hD hS 0 rfl rfl 6 (by decide) (kw hts kin_6 5 rfl) (fun _ h9 => h9) rfl (by decide +kernel) rfl rfl (Nat.le_of_ble_eq_true rfl) dX7_write_45 (fun H locs hP hD hS => ?_)
      have hP : va_P D vwCl (wM cI cZ u w told read isK undoes (upd text texted.toNatClampNeg letter) (texted + 1) seen seS seB seP at_ start clauses number word) H := hP
      have hD : va_D A (wM cI cZ u w told read isK undoes (upd text texted.toNatClampNeg letter) (texted + 1) seen seS seB seP at_ start clauses number word) := hD
      refine lv_aload_n hx hb dX7_write_48 rfl (lv_at hl 0 rfl) ?_
      refine va_get (D := D) (ci := 7) (v := .int (texted + 1)) (C := RX7) (T := TX7) (N := 16) hx hb hts inlX7 hown hK hP 0 rfl rfl 6 (by decide) (kw hts kin_6 5 rfl) (fun _ h9 => h9) rfl dX7_write_49 ?_
      have hf : (f_X7_write text texted letter) = ((texted + 1), (upd text texted.toNatClampNeg letter), (texted + 1)) := ((if_neg c_9).trans (if_neg c_22))
      rw [hf] at hret
      dsimp only at hret
      exact hret _ _ _ _ hP hS dX7_write_52
    · skip
      refine lv_bipush (v := (-5)) hx hb dX7_write_25 (by decide) ?_
      have hf : (f_X7_write text texted letter) = ((-5), text, texted) := ((if_neg c_9).trans (if_pos c_22))
      rw [hf] at hret
      dsimp only at hret
      exact hret _ _ _ _ hP hS dX7_write_27
  · skip
    refine lv_bipush (v := (-3)) hx hb dX7_write_12 (by decide) ?_
    have hf : (f_X7_write text texted letter) = ((-3), text, texted) := (if_pos c_9)
    rw [hf] at hret
    dsimp only at hret
    exact hret _ _ _ _ hP hS dX7_write_14
