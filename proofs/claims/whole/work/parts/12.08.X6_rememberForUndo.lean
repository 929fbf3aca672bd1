def v_X6_rememberForUndo_7_0 (lat : Int32) : Int32 := if lat < 7 then (lat + 1) else 0
def f_X6_rememberForUndo (lat : Int32) (und : Int32) (std : Nat → Int32) (past : Nat → Int32) : Int32 × Int32 × (Nat → Int32) := ((v_X6_rememberForUndo_7_0 lat), (if (und + 1) < 8 then (und + 1) else 8), (f_X2_store 680 past std (v_X6_rememberForUndo_7_0 lat)))
abbrev rm_X6_rememberForUndo : Room := { frames := 3, cells := 0, slots := 0, locals := 106 }
set_option maxRecDepth 100000 in
theorem cut_c_shf_27_28_29_17_18_19 (cI : ClassId) (q : Nat → Nat) (lat : Int32) (und : Int32) (kpl : Int32) (len : Int32) (ncl : Int32) (spe : Int32) (sru : Int32) (sbe : Int32) (sen : Int32) (lets : Nat → Int32) (wrds : Nat → Int32) (nums : Nat → Int32) (tb : Int32) (tp : Int32) (tr : Int32) (knd : Nat → Int32) (sec : Nat → Int32) (brd : Nat → Int32) (rms : Nat → Int32) (std : Nat → Int32) (sn : Int32) (ss : Nat → Int32) (sb : Nat → Int32) (sp : Nat → Int32) (past : Nat → Int32) (kept : Nat → Int32) (n_f : Nat → Int32) (n_std : Nat → Int32) : kCut (wC cI q lat und kpl len ncl spe sru sbe sen lets wrds nums tb tp tr knd sec brd rms std sn ss sb sp past kept) (wShf cI (q 27) (q 28) (q 29) 680 past ++ wStd cI q std) (wShf cI (q 27) (q 28) (q 29) 680 n_f ++ wStd cI q n_std) (wC cI q lat und kpl len ncl spe sru sbe sen lets wrds nums tb tp tr knd sec brd rms n_std sn ss sb sp n_f kept) [((q 0), .inr (6, [.ref (q 1), .ref (q 8), .ref (q 17), .ref (q 20), .ref (q 27), .ref (q 30), .int lat, .int und, .int kpl])), ((q 1), .inr (1, [.ref (q 2), .ref (q 4), .ref (q 6), .int len, .int ncl, .int spe, .int sru, .int sbe, .int sen])), ((q 2), .inr (0, [.ref (q 3)])), ((q 3), .inl (cI, 160, .inl lets)), ((q 4), .inr (0, [.ref (q 5)])), ((q 5), .inl (cI, 14, .inl wrds)), ((q 6), .inr (0, [.ref (q 7)])), ((q 7), .inl (cI, 42, .inl nums)), ((q 8), .inr (5, [.int tb, .int tp, .int tr, .ref (q 9), .ref (q 11), .ref (q 13), .ref (q 15)])), ((q 9), .inr (0, [.ref (q 10)])), ((q 10), .inl (cI, 6, .inl knd)), ((q 11), .inr (0, [.ref (q 12)])), ((q 12), .inl (cI, 6, .inl sec)), ((q 13), .inr (0, [.ref (q 14)])), ((q 14), .inl (cI, 36, .inl brd)), ((q 15), .inr (0, [.ref (q 16)])), ((q 16), .inl (cI, 8, .inl rms)), ((q 20), .inr (3, [.int sn, .ref (q 21), .ref (q 23), .ref (q 25)])), ((q 21), .inr (0, [.ref (q 22)])), ((q 22), .inl (cI, 6, .inl ss)), ((q 23), .inr (0, [.ref (q 24)])), ((q 24), .inl (cI, 6, .inl sb)), ((q 25), .inr (0, [.ref (q 26)])), ((q 26), .inl (cI, 6, .inl sp)), ((q 30), .inr (2, [.ref (q 31)])), ((q 31), .inr (0, [.ref (q 32)])), ((q 32), .inl (cI, 170, .inl kept))] [27, 28, 29, 17, 18, 19] [0, 1, 2, 3, 4, 5, 6, 7, 8, 9, 10, 11, 12, 13, 14, 15, 16, 20, 21, 22, 23, 24, 25, 26, 30, 31, 32] [0, 1, 2, 3, 4, 5, 6, 7, 8, 9, 10, 11, 12, 13, 14, 15, 16, 30, 31, 32, 17, 18, 19, 20, 21, 22, 23, 27, 28, 29, 24, 25, 26] [q 27, q 28, q 29, q 17, q 18, q 19] ∧ kNd [27, 28, 29, 17, 18, 19] [0, 1, 2, 3, 4, 5, 6, 7, 8, 9, 10, 11, 12, 13, 14, 15, 16, 20, 21, 22, 23, 24, 25, 26, 30, 31, 32] [0, 1, 2, 3, 4, 5, 6, 7, 8, 9, 10, 11, 12, 13, 14, 15, 16, 30, 31, 32, 17, 18, 19, 20, 21, 22, 23, 27, 28, 29, 24, 25, 26] = true := ⟨⟨rfl, rfl, ⟨rfl, rfl⟩, rfl⟩, by decide +kernel⟩
set_option maxRecDepth 100000 in
set_option maxHeartbeats 4000000 in
theorem k_X6_rememberForUndo (l : Launch) (D : va_G) (cI cZ : ClassId) (adK adV : Nat → Nat) (q : Nat → Nat) (lat : Int32) (und : Int32) (kpl : Int32) (len : Int32) (ncl : Int32) (spe : Int32) (sru : Int32) (sbe : Int32) (sen : Int32) (lets : Nat → Int32) (wrds : Nat → Int32) (nums : Nat → Int32) (tb : Int32) (tp : Int32) (tr : Int32) (knd : Nat → Int32) (sec : Nat → Int32) (brd : Nat → Int32) (rms : Nat → Int32) (std : Nat → Int32) (sn : Int32) (ss : Nat → Int32) (sb : Nat → Int32) (sp : Nat → Int32) (past : Nat → Int32) (kept : Nat → Int32) : CV l D (kTy cI cZ) (kG adK adV) yX6_rememberForUndo (.code yX6_rememberForUndo cX6_rememberForUndo 1 none :: wsL_law) rm_X6_rememberForUndo [.ref (q 0)] (wC cI q lat und kpl len ncl spe sru sbe sen lets wrds nums tb tp tr knd sec brd rms std sn ss sb sp past kept) (wC cI q ((f_X6_rememberForUndo lat und std past).1) ((f_X6_rememberForUndo lat und std past).2.1) kpl len ncl spe sru sbe sen lets wrds nums tb tp tr knd sec brd rms std sn ss sb sp ((f_X6_rememberForUndo lat und std past).2.2) kept) := by
  refine CV.of (cc := cX6_rememberForUndo) (maxL := 1) (by decide) rfl (Nat.le_of_ble_eq_true rfl) ?_
  intro p e s m args below meth c A Q ls hx hb hml hts0 hown hA hP hK hD hE hl hret
  have hts : ∀ w ∈ wsL_law, w.before args s = true := fun w h => hts0 w (List.mem_cons_of_mem _ h)
  clear hts0
  have hown : s.vm.findClass RX6 = some m.cls := hown
  have hl : lv_has ls 1 [(0, .ref (q 0))] := hl
  have hS : va_S A s.heap s.heap [] := va_S.rf
  revert hP hS
  suffices hgo : ∀ (H : Heap) (locs : List Loc), va_P D vwCl (wC cI q lat und kpl len ncl spe sru sbe sen lets wrds nums tb tp tr knd sec brd rms std sn ss sb sp past kept) H → va_S A s.heap H locs → W p l e rm_X6_rememberForUndo s m args below meth c H locs 0 0 Q (F0 m 0 ls []) from fun a b => hgo _ _ a b
  intro H locs hP hS
  refine lv_aload_n hx hb dX6_rememberForUndo_0 rfl (lv_at hl 0 rfl) ?_
  refine lv_aload_n hx hb dX6_rememberForUndo_1 rfl (lv_at hl 0 rfl) ?_
  refine va_get (D := D) (ci := 6) (v := .int lat) (C := RX6) (T := TX6) (N := 9) hx hb hts inlX6 hown hK hP 0 rfl rfl 6 (by decide) (kw hts kin_2 9 rfl) (fun _ h9 => h9) rfl dX6_rememberForUndo_2 ?_
  refine lv_bipush (v := 7) hx hb dX6_rememberForUndo_5 (by decide) ?_
  have J7 : ∀ (H : Heap) (locs : List Loc) (ls : Array Slot), va_P D vwCl (wC cI q lat und kpl len ncl spe sru sbe sen lets wrds nums tb tp tr knd sec brd rms std sn ss sb sp past kept) H → va_D A (wC cI q lat und kpl len ncl spe sru sbe sen lets wrds nums tb tp tr knd sec brd rms std sn ss sb sp past kept) → va_S A s.heap H locs → lv_has ls 1 [(0, .ref (q 0))] → W p l e rm_X6_rememberForUndo s m args below meth c H locs 0 0 Q (F0 m 20 ls [.int (v_X6_rememberForUndo_7_0 lat), .ref (q 0)]) := by
    intro H locs ls hP hD hS hl
    refine va_put (D := D) (ci := 6) (v := .int (v_X6_rememberForUndo_7_0 lat)) (ty := .int) (C := RX6) (T := TX6) (N := 9) hx hb hts inlX6 tyX6 tyX6_ok nmX6 hown hK hP hD hS 0 rfl rfl 6 (by decide) (kw hts kin_2 9 rfl) (fun _ h9 => h9) rfl (by decide +kernel) rfl rfl (Nat.le_of_ble_eq_true rfl) dX6_rememberForUndo_20 (fun H locs hP hD hS => ?_)
    have hP : va_P D vwCl (wC cI q (v_X6_rememberForUndo_7_0 lat) und kpl len ncl spe sru sbe sen lets wrds nums tb tp tr knd sec brd rms std sn ss sb sp past kept) H := hP
    have hD : va_D A (wC cI q (v_X6_rememberForUndo_7_0 lat) und kpl len ncl spe sru sbe sen lets wrds nums tb tp tr knd sec brd rms std sn ss sb sp past kept) := hD
    refine lv_aload_n hx hb dX6_rememberForUndo_23 rfl (lv_at hl 0 rfl) ?_
    refine va_get (D := D) (ci := 6) (v := .ref (q 27)) (C := RX6) (T := TX6) (N := 9) hx hb hts inlX6 hown hK hP 0 rfl rfl 4 (by decide) (kw hts kin_2 7 rfl) (fun _ h9 => h9) rfl dX6_rememberForUndo_24 ?_
    refine lv_aload_n hx hb dX6_rememberForUndo_27 rfl (lv_at hl 0 rfl) ?_
    refine va_get (D := D) (ci := 6) (v := .int (v_X6_rememberForUndo_7_0 lat)) (C := RX6) (T := TX6) (N := 9) hx hb hts inlX6 hown hK hP 0 rfl rfl 6 (by decide) (kw hts kin_2 9 rfl) (fun _ h9 => h9) rfl dX6_rememberForUndo_28 ?_
    refine lv_aload_n hx hb dX6_rememberForUndo_31 rfl (lv_at hl 0 rfl) ?_
    refine va_get (D := D) (ci := 6) (v := .ref (q 17)) (C := RX6) (T := TX6) (N := 9) hx hb hts inlX6 hown hK hP 0 rfl rfl 2 (by decide) (kw hts kin_1 23 rfl) (fun _ h9 => h9) rfl dX6_rememberForUndo_32 ?_
    refine kvv (As := [.int (v_X6_rememberForUndo_7_0 lat), .ref (q 17)]) (rest := []) (q0 := 0) (ci := 2) ⟨hx, hb, hml, hown, hts⟩ hP hK hD hS hA hE (k_X2_store l D cI cZ adK adV (q 27) (q 28) (q 29) 680 q past std (v_X6_rememberForUndo_7_0 lat) (by decide)) (kcv hts kM_X2_store (kin_23 _ (List.mem_of_getElem? (i := 9) rfl)) ⟨rfl, rfl⟩ ⟨Nat.le_of_ble_eq_true rfl, Nat.le_of_ble_eq_true rfl⟩) kBl_G kOk_G (wC cI q (v_X6_rememberForUndo_7_0 lat) und kpl len ncl spe sru sbe sen lets wrds nums tb tp tr knd sec brd rms std sn ss sb sp (f_X2_store 680 past std (v_X6_rememberForUndo_7_0 lat)) kept) (cut_c_shf_27_28_29_17_18_19 cI q (v_X6_rememberForUndo_7_0 lat) und kpl len ncl spe sru sbe sen lets wrds nums tb tp tr knd sec brd rms std sn ss sb sp past kept (f_X2_store 680 past std (v_X6_rememberForUndo_7_0 lat)) std).1 (cut_c_shf_27_28_29_17_18_19 cI q (v_X6_rememberForUndo_7_0 lat) und kpl len ncl spe sru sbe sen lets wrds nums tb tp tr knd sec brd rms std sn ss sb sp past kept (f_X2_store 680 past std (v_X6_rememberForUndo_7_0 lat)) std).2 rfl rfl rfl rfl hl.1 rfl (Nat.le_of_ble_eq_true rfl) dX6_rememberForUndo_35 (fun H locs hP hD hS => ?_)
    refine lv_aload_n hx hb dX6_rememberForUndo_38 rfl (lv_at hl 0 rfl) ?_
    refine lv_bipush (v := 8) hx hb dX6_rememberForUndo_39 (by decide) ?_
    refine lv_aload_n hx hb dX6_rememberForUndo_41 rfl (lv_at hl 0 rfl) ?_
    refine va_get (D := D) (ci := 6) (v := .int und) (C := RX6) (T := TX6) (N := 9) hx hb hts inlX6 hown hK hP 0 rfl rfl 7 (by decide) (kw hts kin_2 10 rfl) (fun _ h9 => h9) rfl dX6_rememberForUndo_42 ?_
    refine lv_iconst (v := 1) hx hb dX6_rememberForUndo_45 (by decide) ?_
    refine lv_iadd hx hb dX6_rememberForUndo_46 ?_
    refine va_mmin hx hb (hml.trans hl.1.symm) hown (kw hts kin_23 8 rfl) (kw hts kin_5 18 rfl) (kw hts kin_3 4 rfl) (kw hts kin_5 19 rfl) (Nat.le_of_ble_eq_true rfl) (Nat.le_of_ble_eq_true rfl) (Nat.zero_le _) (Nat.zero_le _) dX6_rememberForUndo_47 ?_
    refine va_put (D := D) (ci := 6) (v := .int (if (und + 1) < 8 then (und + 1) else 8)) (ty := .int) (C := RX6) (T := TX6) (N := 9) hx hb hts inlX6 tyX6 tyX6_ok nmX6 hown hK hP hD hS 0 rfl rfl 7 (by decide) (kw hts kin_2 10 rfl) (fun _ h9 => h9) rfl (by decide +kernel) rfl rfl (Nat.le_of_ble_eq_true rfl) dX6_rememberForUndo_50 (fun H locs hP hD hS => ?_)
    have hP : va_P D vwCl (wC cI q (v_X6_rememberForUndo_7_0 lat) (if (und + 1) < 8 then (und + 1) else 8) kpl len ncl spe sru sbe sen lets wrds nums tb tp tr knd sec brd rms std sn ss sb sp (f_X2_store 680 past std (v_X6_rememberForUndo_7_0 lat)) kept) H := hP
    have hD : va_D A (wC cI q (v_X6_rememberForUndo_7_0 lat) (if (und + 1) < 8 then (und + 1) else 8) kpl len ncl spe sru sbe sen lets wrds nums tb tp tr knd sec brd rms std sn ss sb sp (f_X2_store 680 past std (v_X6_rememberForUndo_7_0 lat)) kept) := hD
    have hf : (f_X6_rememberForUndo lat und std past) = ((v_X6_rememberForUndo_7_0 lat), (if (und + 1) < 8 then (und + 1) else 8), (f_X2_store 680 past std (v_X6_rememberForUndo_7_0 lat))) := rfl
    rw [hf] at hret
    dsimp only at hret
    exact hret _ _ _ _ hP hS dX6_rememberForUndo_53
  refine lv_icmp_lt (tgt := 14) hx hb dX6_rememberForUndo_7 (by decide) (fun c_7 => ?_) (fun c_7 => ?_)
  · skip
    refine lv_aload_n hx hb dX6_rememberForUndo_14 rfl (lv_at hl 0 rfl) ?_
    refine va_get (D := D) (ci := 6) (v := .int lat) (C := RX6) (T := TX6) (N := 9) hx hb hts inlX6 hown hK hP 0 rfl rfl 6 (by decide) (kw hts kin_2 9 rfl) (fun _ h9 => h9) rfl dX6_rememberForUndo_15 ?_
    refine lv_iconst (v := 1) hx hb dX6_rememberForUndo_18 (by decide) ?_
    refine lv_iadd hx hb dX6_rememberForUndo_19 ?_
    rw [show (v_X6_rememberForUndo_7_0 lat) = (lat + 1) from (if_pos c_7)] at J7
    exact J7 _ _ _ hP hD hS (lv_sub hl [0] rfl)
  · skip
    refine lv_iconst (v := 0) hx hb dX6_rememberForUndo_10 (by decide) ?_
    refine lv_goto (tgt := 20) hx hb dX6_rememberForUndo_11 (by decide) ?_
    rw [show (v_X6_rememberForUndo_7_0 lat) = 0 from (if_neg c_7)] at J7
    exact J7 _ _ _ hP hD hS (lv_sub hl [0] rfl)
