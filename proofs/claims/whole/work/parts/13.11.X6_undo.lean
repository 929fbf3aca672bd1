def v_X6_undo_30_0 (lat : Int32) : Int32 := if lat = 0 then 7 else (lat - 1)
def f_X6_undo (lat : Int32) (und : Int32) (std : Nat → Int32) (past : Nat → Int32) : Int32 × Int32 × Int32 × (Nat → Int32) := if 0 < und then ((und - 1), (v_X6_undo_30_0 lat), (und - 1), (f_X2_fetch 680 past std lat)) else ((-4), lat, und, std)
abbrev rm_X6_undo : Room := { frames := 3, cells := 0, slots := 0, locals := 106 }
set_option maxRecDepth 100000 in
set_option maxHeartbeats 4000000 in
theorem k_X6_undo (l : Launch) (D : va_G) (cI cZ : ClassId) (adK adV : Nat → Nat) (q : Nat → Nat) (lat : Int32) (und : Int32) (kpl : Int32) (len : Int32) (ncl : Int32) (spe : Int32) (sru : Int32) (sbe : Int32) (sen : Int32) (lets : Nat → Int32) (wrds : Nat → Int32) (nums : Nat → Int32) (tb : Int32) (tp : Int32) (tr : Int32) (knd : Nat → Int32) (sec : Nat → Int32) (brd : Nat → Int32) (rms : Nat → Int32) (std : Nat → Int32) (sn : Int32) (ss : Nat → Int32) (sb : Nat → Int32) (sp : Nat → Int32) (past : Nat → Int32) (kept : Nat → Int32) : CI l D (kTy cI cZ) (kG adK adV) yX6_undo (.code yX6_undo cX6_undo 1 (some .int) :: wsL_law) rm_X6_undo [.ref (q 0)] (wC cI q lat und kpl len ncl spe sru sbe sen lets wrds nums tb tp tr knd sec brd rms std sn ss sb sp past kept) (wC cI q ((f_X6_undo lat und std past).2.1) ((f_X6_undo lat und std past).2.2.1) kpl len ncl spe sru sbe sen lets wrds nums tb tp tr knd sec brd rms ((f_X6_undo lat und std past).2.2.2) sn ss sb sp past kept) ((f_X6_undo lat und std past).1) := by
  refine CI.of (cc := cX6_undo) (maxL := 1) (ty := .int) (by decide) rfl (Nat.le_of_ble_eq_true rfl) rfl ?_
  intro p e s m args below meth c A Q ls hx hb hml hts0 hown hA hP hK hD hE hl hret
  have hts : ∀ w ∈ wsL_law, w.before args s = true := fun w h => hts0 w (List.mem_cons_of_mem _ h)
  clear hts0
  have hown : s.vm.findClass RX6 = some m.cls := hown
  have hl : lv_has ls 1 [(0, .ref (q 0))] := hl
  have hS : va_S A s.heap s.heap [] := va_S.rf
  revert hP hS
  suffices hgo : ∀ (H : Heap) (locs : List Loc), va_P D vwCl (wC cI q lat und kpl len ncl spe sru sbe sen lets wrds nums tb tp tr knd sec brd rms std sn ss sb sp past kept) H → va_S A s.heap H locs → W p l e rm_X6_undo s m args below meth c H locs 0 0 Q (F0 m 0 ls []) from fun a b => hgo _ _ a b
  intro H locs hP hS
  refine lv_aload_n hx hb dX6_undo_0 rfl (lv_at hl 0 rfl) ?_
  refine va_get (D := D) (ci := 6) (v := .int und) (C := RX6) (T := TX6) (N := 9) hx hb hts inlX6 hown hK hP 0 rfl rfl 7 (by decide) (kw hts kin_2 10 rfl) (fun _ h9 => h9) rfl dX6_undo_1 ?_
  refine lv_if_gt (tgt := 10) hx hb dX6_undo_4 (by decide) (fun c_4 => ?_) (fun c_4 => ?_)
  · skip
    refine lv_aload_n hx hb dX6_undo_10 rfl (lv_at hl 0 rfl) ?_
    refine va_get (D := D) (ci := 6) (v := .ref (q 27)) (C := RX6) (T := TX6) (N := 9) hx hb hts inlX6 hown hK hP 0 rfl rfl 4 (by decide) (kw hts kin_2 7 rfl) (fun _ h9 => h9) rfl dX6_undo_11 ?_
    refine lv_aload_n hx hb dX6_undo_14 rfl (lv_at hl 0 rfl) ?_
    refine va_get (D := D) (ci := 6) (v := .int lat) (C := RX6) (T := TX6) (N := 9) hx hb hts inlX6 hown hK hP 0 rfl rfl 6 (by decide) (kw hts kin_2 9 rfl) (fun _ h9 => h9) rfl dX6_undo_15 ?_
    refine lv_aload_n hx hb dX6_undo_18 rfl (lv_at hl 0 rfl) ?_
    refine va_get (D := D) (ci := 6) (v := .ref (q 17)) (C := RX6) (T := TX6) (N := 9) hx hb hts inlX6 hown hK hP 0 rfl rfl 2 (by decide) (kw hts kin_1 23 rfl) (fun _ h9 => h9) rfl dX6_undo_19 ?_
    refine kvv (As := [.int lat, .ref (q 17)]) (rest := []) (q0 := 0) (ci := 2) ⟨hx, hb, hml, hown, hts⟩ hP hK hD hS hA hE (k_X2_fetch l D cI cZ adK adV (q 27) (q 28) (q 29) 680 q past std lat (by decide)) (kcv hts kM_X2_fetch (kin_27 _ (List.mem_of_getElem? (i := 8) rfl)) ⟨rfl, rfl⟩ ⟨Nat.le_of_ble_eq_true rfl, Nat.le_of_ble_eq_true rfl⟩) kBl_G kOk_G (wC cI q lat und kpl len ncl spe sru sbe sen lets wrds nums tb tp tr knd sec brd rms (f_X2_fetch 680 past std lat) sn ss sb sp past kept) (cut_c_shf_27_28_29_17_18_19 cI q lat und kpl len ncl spe sru sbe sen lets wrds nums tb tp tr knd sec brd rms std sn ss sb sp past kept past (f_X2_fetch 680 past std lat)).1 (cut_c_shf_27_28_29_17_18_19 cI q lat und kpl len ncl spe sru sbe sen lets wrds nums tb tp tr knd sec brd rms std sn ss sb sp past kept past (f_X2_fetch 680 past std lat)).2 rfl rfl rfl rfl hl.1 rfl (Nat.le_of_ble_eq_true rfl) dX6_undo_22 (fun H locs hP hD hS => ?_)
    refine lv_aload_n hx hb dX6_undo_25 rfl (lv_at hl 0 rfl) ?_
    refine lv_aload_n hx hb dX6_undo_26 rfl (lv_at hl 0 rfl) ?_
    refine va_get (D := D) (ci := 6) (v := .int lat) (C := RX6) (T := TX6) (N := 9) hx hb hts inlX6 hown hK hP 0 rfl rfl 6 (by decide) (kw hts kin_2 9 rfl) (fun _ h9 => h9) rfl dX6_undo_27 ?_
    have J30 : ∀ (H : Heap) (locs : List Loc) (ls : Array Slot), va_P D vwCl (wC cI q lat und kpl len ncl spe sru sbe sen lets wrds nums tb tp tr knd sec brd rms (f_X2_fetch 680 past std lat) sn ss sb sp past kept) H → va_D A (wC cI q lat und kpl len ncl spe sru sbe sen lets wrds nums tb tp tr knd sec brd rms (f_X2_fetch 680 past std lat) sn ss sb sp past kept) → va_S A s.heap H locs → lv_has ls 1 [(0, .ref (q 0))] → W p l e rm_X6_undo s m args below meth c H locs 0 0 Q (F0 m 44 ls [.int (v_X6_undo_30_0 lat), .ref (q 0)]) := by
      intro H locs ls hP hD hS hl
      refine va_put (D := D) (ci := 6) (v := .int (v_X6_undo_30_0 lat)) (ty := .int) (C := RX6) (T := TX6) (N := 9) hx hb hts inlX6 tyX6 tyX6_ok nmX6 hown hK hP hD hS 0 rfl rfl 6 (by decide) (kw hts kin_2 9 rfl) (fun _ h9 => h9) rfl (by decide +kernel) rfl rfl (Nat.le_of_ble_eq_true rfl) dX6_undo_44 (fun H locs hP hD hS => ?_)
      have hP : va_P D vwCl (wC cI q (v_X6_undo_30_0 lat) und kpl len ncl spe sru sbe sen lets wrds nums tb tp tr knd sec brd rms (f_X2_fetch 680 past std lat) sn ss sb sp past kept) H := hP
      have hD : va_D A (wC cI q (v_X6_undo_30_0 lat) und kpl len ncl spe sru sbe sen lets wrds nums tb tp tr knd sec brd rms (f_X2_fetch 680 past std lat) sn ss sb sp past kept) := hD
      refine lv_aload_n hx hb dX6_undo_47 rfl (lv_at hl 0 rfl) ?_
      refine lv_dup hx hb dX6_undo_48 rfl ?_
      refine va_get (D := D) (ci := 6) (v := .int und) (C := RX6) (T := TX6) (N := 9) hx hb hts inlX6 hown hK hP 0 rfl rfl 7 (by decide) (kw hts kin_2 10 rfl) (fun _ h9 => h9) rfl dX6_undo_49 ?_
      refine lv_iconst (v := 1) hx hb dX6_undo_52 (by decide) ?_
      refine lv_isub hx hb dX6_undo_53 ?_
      refine va_put (D := D) (ci := 6) (v := .int (und - 1)) (ty := .int) (C := RX6) (T := TX6) (N := 9) hx hb hts inlX6 tyX6 tyX6_ok nmX6 hown hK hP hD hS 0 rfl rfl 7 (by decide) (kw hts kin_2 10 rfl) (fun _ h9 => h9) rfl (by decide +kernel) rfl rfl (Nat.le_of_ble_eq_true rfl) dX6_undo_54 (fun H locs hP hD hS => ?_)
      have hP : va_P D vwCl (wC cI q (v_X6_undo_30_0 lat) (und - 1) kpl len ncl spe sru sbe sen lets wrds nums tb tp tr knd sec brd rms (f_X2_fetch 680 past std lat) sn ss sb sp past kept) H := hP
      have hD : va_D A (wC cI q (v_X6_undo_30_0 lat) (und - 1) kpl len ncl spe sru sbe sen lets wrds nums tb tp tr knd sec brd rms (f_X2_fetch 680 past std lat) sn ss sb sp past kept) := hD
      refine lv_aload_n hx hb dX6_undo_57 rfl (lv_at hl 0 rfl) ?_
      refine va_get (D := D) (ci := 6) (v := .int (und - 1)) (C := RX6) (T := TX6) (N := 9) hx hb hts inlX6 hown hK hP 0 rfl rfl 7 (by decide) (kw hts kin_2 10 rfl) (fun _ h9 => h9) rfl dX6_undo_58 ?_
      have hf : (f_X6_undo lat und std past) = ((und - 1), (v_X6_undo_30_0 lat), (und - 1), (f_X2_fetch 680 past std lat)) := (if_pos c_4)
      rw [hf] at hret
      dsimp only at hret
      exact hret _ _ _ _ hP hS dX6_undo_61
    refine lv_if_ne (tgt := 38) hx hb dX6_undo_30 (by decide) (fun c_30 => ?_) (fun c_30 => ?_)
    · skip
      refine lv_aload_n hx hb dX6_undo_38 rfl (lv_at hl 0 rfl) ?_
      refine va_get (D := D) (ci := 6) (v := .int lat) (C := RX6) (T := TX6) (N := 9) hx hb hts inlX6 hown hK hP 0 rfl rfl 6 (by decide) (kw hts kin_2 9 rfl) (fun _ h9 => h9) rfl dX6_undo_39 ?_
      refine lv_iconst (v := 1) hx hb dX6_undo_42 (by decide) ?_
      refine lv_isub hx hb dX6_undo_43 ?_
      rw [show (v_X6_undo_30_0 lat) = (lat - 1) from (if_neg c_30)] at J30
      exact J30 _ _ _ hP hD hS (lv_sub hl [0] rfl)
    · skip
      refine lv_bipush (v := 7) hx hb dX6_undo_33 (by decide) ?_
      refine lv_goto (tgt := 44) hx hb dX6_undo_35 (by decide) ?_
      rw [show (v_X6_undo_30_0 lat) = 7 from (if_pos c_30)] at J30
      exact J30 _ _ _ hP hD hS (lv_sub hl [0] rfl)
  · skip
    refine lv_bipush (v := (-4)) hx hb dX6_undo_7 (by decide) ?_
    have hf : (f_X6_undo lat und std past) = ((-4), lat, und, std) := (if_neg c_4)
    rw [hf] at hret
    dsimp only at hret
    exact hret _ _ _ _ hP hS dX6_undo_9
