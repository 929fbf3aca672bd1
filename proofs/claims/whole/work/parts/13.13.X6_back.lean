def f_X6_back (und : Int32) (kpl : Int32) (std : Nat → Int32) (kept : Nat → Int32) (k : Int32) : Int32 × Int32 × (Nat → Int32) := if k < 0 then ((-2), und, std) else (if k < 2 then (if (f_X6_has kpl k) = 0 then ((-4), und, std) else ((f_X4_date (f_X2_fetch 170 kept std k)), 0, (f_X2_fetch 170 kept std k))) else ((-2), und, std))
abbrev rm_X6_back : Room := { frames := 3, cells := 0, slots := 0, locals := 106 }
set_option maxRecDepth 100000 in
set_option maxHeartbeats 4000000 in
theorem k_X6_back (l : Launch) (D : va_G) (cI cZ : ClassId) (adK adV : Nat → Nat) (q : Nat → Nat) (lat : Int32) (und : Int32) (kpl : Int32) (len : Int32) (ncl : Int32) (spe : Int32) (sru : Int32) (sbe : Int32) (sen : Int32) (lets : Nat → Int32) (wrds : Nat → Int32) (nums : Nat → Int32) (tb : Int32) (tp : Int32) (tr : Int32) (knd : Nat → Int32) (sec : Nat → Int32) (brd : Nat → Int32) (rms : Nat → Int32) (std : Nat → Int32) (sn : Int32) (ss : Nat → Int32) (sb : Nat → Int32) (sp : Nat → Int32) (past : Nat → Int32) (kept : Nat → Int32) (k : Int32) : CI l D (kTy cI cZ) (kG adK adV) yX6_back (.code yX6_back cX6_back 2 (some .int) :: wsL_law) rm_X6_back [.ref (q 0), .int k] (wC cI q lat und kpl len ncl spe sru sbe sen lets wrds nums tb tp tr knd sec brd rms std sn ss sb sp past kept) (wC cI q lat ((f_X6_back und kpl std kept k).2.1) kpl len ncl spe sru sbe sen lets wrds nums tb tp tr knd sec brd rms ((f_X6_back und kpl std kept k).2.2) sn ss sb sp past kept) ((f_X6_back und kpl std kept k).1) := by
  refine CI.of (cc := cX6_back) (maxL := 2) (ty := .int) (by decide) rfl (Nat.le_of_ble_eq_true rfl) rfl ?_
  intro p e s m args below meth c A Q ls hx hb hml hts0 hown hA hP hK hD hE hl hret
  have hts : ∀ w ∈ wsL_law, w.before args s = true := fun w h => hts0 w (List.mem_cons_of_mem _ h)
  clear hts0
  have hown : s.vm.findClass RX6 = some m.cls := hown
  have hl : lv_has ls 2 [(0, .ref (q 0)), (1, .int k)] := hl
  have hS : va_S A s.heap s.heap [] := va_S.rf
  revert hP hS
  suffices hgo : ∀ (H : Heap) (locs : List Loc), va_P D vwCl (wC cI q lat und kpl len ncl spe sru sbe sen lets wrds nums tb tp tr knd sec brd rms std sn ss sb sp past kept) H → va_S A s.heap H locs → W p l e rm_X6_back s m args below meth c H locs 0 0 Q (F0 m 0 ls []) from fun a b => hgo _ _ a b
  intro H locs hP hS
  refine lv_iload_n hx hb dX6_back_0 rfl (lv_at hl 1 rfl) ?_
  refine lv_if_lt (tgt := 9) hx hb dX6_back_1 (by decide) (fun c_1 => ?_) (fun c_1 => ?_)
  · skip
    refine lv_bipush (v := (-2)) hx hb dX6_back_9 (by decide) ?_
    have hf : (f_X6_back und kpl std kept k) = ((-2), und, std) := (if_pos c_1)
    rw [hf] at hret
    dsimp only at hret
    exact hret _ _ _ _ hP hS dX6_back_11
  · skip
    refine lv_iload_n hx hb dX6_back_4 rfl (lv_at hl 1 rfl) ?_
    refine lv_iconst (v := 2) hx hb dX6_back_5 (by decide) ?_
    refine lv_icmp_lt (tgt := 12) hx hb dX6_back_6 (by decide) (fun c_6 => ?_) (fun c_6 => ?_)
    · skip
      refine lv_aload_n hx hb dX6_back_12 rfl (lv_at hl 0 rfl) ?_
      refine va_get (D := D) (ci := 6) (v := .int kpl) (C := RX6) (T := TX6) (N := 9) hx hb hts inlX6 hown hK hP 0 rfl rfl 8 (by decide) (kw hts kin_2 11 rfl) (fun _ h9 => h9) rfl dX6_back_13 ?_
      refine lv_iload_n hx hb dX6_back_16 rfl (lv_at hl 1 rfl) ?_
      refine ksi (As := [.int kpl, .int k]) (rest := []) ⟨hx, hb, hml, hown, hts⟩ hP hK hD hS hA hE (k_X6_has l D cI cZ adK adV kpl k) (kcs hts kM_X6_has (kin_28 _ (List.mem_of_getElem? (i := 4) rfl)) ⟨rfl, rfl⟩ ⟨Nat.le_of_ble_eq_true rfl, Nat.le_of_ble_eq_true rfl⟩) kBl_G kOk_G rfl hl.1 rfl (Nat.le_of_ble_eq_true rfl) dX6_back_17 (fun H locs hP hD hS => ?_)
      refine lv_if_ne (tgt := 26) hx hb dX6_back_20 (by decide) (fun c_20 => ?_) (fun c_20 => ?_)
      · skip
        refine lv_aload_n hx hb dX6_back_26 rfl (lv_at hl 0 rfl) ?_
        refine va_get (D := D) (ci := 6) (v := .ref (q 30)) (C := RX6) (T := TX6) (N := 9) hx hb hts inlX6 hown hK hP 0 rfl rfl 5 (by decide) (kw hts kin_2 8 rfl) (fun _ h9 => h9) rfl dX6_back_27 ?_
        refine lv_iload_n hx hb dX6_back_30 rfl (lv_at hl 1 rfl) ?_
        refine lv_aload_n hx hb dX6_back_31 rfl (lv_at hl 0 rfl) ?_
        refine va_get (D := D) (ci := 6) (v := .ref (q 17)) (C := RX6) (T := TX6) (N := 9) hx hb hts inlX6 hown hK hP 0 rfl rfl 2 (by decide) (kw hts kin_1 23 rfl) (fun _ h9 => h9) rfl dX6_back_32 ?_
        refine kvv (As := [.int k, .ref (q 17)]) (rest := []) (q0 := 0) (ci := 2) ⟨hx, hb, hml, hown, hts⟩ hP hK hD hS hA hE (k_X2_fetch l D cI cZ adK adV (q 30) (q 31) (q 32) 170 q kept std k (by decide)) (kcv hts kM_X2_fetch (kin_27 _ (List.mem_of_getElem? (i := 8) rfl)) ⟨rfl, rfl⟩ ⟨Nat.le_of_ble_eq_true rfl, Nat.le_of_ble_eq_true rfl⟩) kBl_G kOk_G (wC cI q lat und kpl len ncl spe sru sbe sen lets wrds nums tb tp tr knd sec brd rms (f_X2_fetch 170 kept std k) sn ss sb sp past kept) (cut_c_shf_30_31_32_17_18_19 cI q lat und kpl len ncl spe sru sbe sen lets wrds nums tb tp tr knd sec brd rms std sn ss sb sp past kept kept (f_X2_fetch 170 kept std k)).1 (cut_c_shf_30_31_32_17_18_19 cI q lat und kpl len ncl spe sru sbe sen lets wrds nums tb tp tr knd sec brd rms std sn ss sb sp past kept kept (f_X2_fetch 170 kept std k)).2 rfl rfl rfl rfl hl.1 rfl (Nat.le_of_ble_eq_true rfl) dX6_back_35 (fun H locs hP hD hS => ?_)
        refine lv_aload_n hx hb dX6_back_38 rfl (lv_at hl 0 rfl) ?_
        refine lv_iconst (v := 0) hx hb dX6_back_39 (by decide) ?_
        refine va_put (D := D) (ci := 6) (v := .int 0) (ty := .int) (C := RX6) (T := TX6) (N := 9) hx hb hts inlX6 tyX6 tyX6_ok nmX6 hown hK hP hD hS 0 rfl rfl 7 (by decide) (kw hts kin_2 10 rfl) (fun _ h9 => h9) rfl (by decide +kernel) rfl rfl (Nat.le_of_ble_eq_true rfl) dX6_back_40 (fun H locs hP hD hS => ?_)
        have hP : va_P D vwCl (wC cI q lat 0 kpl len ncl spe sru sbe sen lets wrds nums tb tp tr knd sec brd rms (f_X2_fetch 170 kept std k) sn ss sb sp past kept) H := hP
        have hD : va_D A (wC cI q lat 0 kpl len ncl spe sru sbe sen lets wrds nums tb tp tr knd sec brd rms (f_X2_fetch 170 kept std k) sn ss sb sp past kept) := hD
        refine lv_aload_n hx hb dX6_back_43 rfl (lv_at hl 0 rfl) ?_
        refine va_get (D := D) (ci := 6) (v := .ref (q 17)) (C := RX6) (T := TX6) (N := 9) hx hb hts inlX6 hown hK hP 0 rfl rfl 2 (by decide) (kw hts kin_1 23 rfl) (fun _ h9 => h9) rfl dX6_back_44 ?_
        refine kvi (As := []) (rest := []) (q0 := 0) (ci := 4) ⟨hx, hb, hml, hown, hts⟩ hP hK hD hS hA hE (k_X4_date l D cI cZ adK adV q (f_X2_fetch 170 kept std k)) (kcv hts kM_X4_date (kin_25 _ (List.mem_of_getElem? (i := 11) rfl)) ⟨rfl, rfl⟩ ⟨Nat.le_of_ble_eq_true rfl, Nat.le_of_ble_eq_true rfl⟩) kBl_G kOk_G (wC cI q lat 0 kpl len ncl spe sru sbe sen lets wrds nums tb tp tr knd sec brd rms (f_X2_fetch 170 kept std k) sn ss sb sp past kept) (cut_c_std cI q lat 0 kpl len ncl spe sru sbe sen lets wrds nums tb tp tr knd sec brd rms (f_X2_fetch 170 kept std k) sn ss sb sp past kept (f_X2_fetch 170 kept std k)).1 (cut_c_std cI q lat 0 kpl len ncl spe sru sbe sen lets wrds nums tb tp tr knd sec brd rms (f_X2_fetch 170 kept std k) sn ss sb sp past kept (f_X2_fetch 170 kept std k)).2 rfl rfl rfl rfl hl.1 rfl (Nat.le_of_ble_eq_true rfl) dX6_back_47 (fun H locs hP hD hS => ?_)
        have hf : (f_X6_back und kpl std kept k) = ((f_X4_date (f_X2_fetch 170 kept std k)), 0, (f_X2_fetch 170 kept std k)) := ((if_neg c_1).trans ((if_pos c_6).trans (if_neg c_20)))
        rw [hf] at hret
        dsimp only at hret
        exact hret _ _ _ _ hP hS dX6_back_50
      · skip
        refine lv_bipush (v := (-4)) hx hb dX6_back_23 (by decide) ?_
        have hf : (f_X6_back und kpl std kept k) = ((-4), und, std) := ((if_neg c_1).trans ((if_pos c_6).trans (if_pos c_20)))
        rw [hf] at hret
        dsimp only at hret
        exact hret _ _ _ _ hP hS dX6_back_25
    · skip
      refine lv_bipush (v := (-2)) hx hb dX6_back_9 (by decide) ?_
      have hf : (f_X6_back und kpl std kept k) = ((-2), und, std) := ((if_neg c_1).trans (if_neg c_6))
      rw [hf] at hret
      dsimp only at hret
      exact hret _ _ _ _ hP hS dX6_back_11
