def f_X6_keep (kpl : Int32) (std : Nat → Int32) (kept : Nat → Int32) (k : Int32) : Int32 × Int32 × (Nat → Int32) := if k < 0 then ((-2), kpl, kept) else (if k < 2 then ((f_X4_date std), (kpl ||| (1 <<< (k &&& 31))), (f_X2_store 170 kept std k)) else ((-2), kpl, kept))
abbrev rm_X6_keep : Room := { frames := 3, cells := 0, slots := 0, locals := 106 }
set_option maxRecDepth 100000 in
theorem cut_c_shf_30_31_32_17_18_19 (cI : ClassId) (q : Nat → Nat) (lat : Int32) (und : Int32) (kpl : Int32) (len : Int32) (ncl : Int32) (spe : Int32) (sru : Int32) (sbe : Int32) (sen : Int32) (lets : Nat → Int32) (wrds : Nat → Int32) (nums : Nat → Int32) (tb : Int32) (tp : Int32) (tr : Int32) (knd : Nat → Int32) (sec : Nat → Int32) (brd : Nat → Int32) (rms : Nat → Int32) (std : Nat → Int32) (sn : Int32) (ss : Nat → Int32) (sb : Nat → Int32) (sp : Nat → Int32) (past : Nat → Int32) (kept : Nat → Int32) (n_f : Nat → Int32) (n_std : Nat → Int32) : kCut (wC cI q lat und kpl len ncl spe sru sbe sen lets wrds nums tb tp tr knd sec brd rms std sn ss sb sp past kept) (wShf cI (q 30) (q 31) (q 32) 170 kept ++ wStd cI q std) (wShf cI (q 30) (q 31) (q 32) 170 n_f ++ wStd cI q n_std) (wC cI q lat und kpl len ncl spe sru sbe sen lets wrds nums tb tp tr knd sec brd rms n_std sn ss sb sp past n_f) [((q 0), .inr (6, [.ref (q 1), .ref (q 8), .ref (q 17), .ref (q 20), .ref (q 27), .ref (q 30), .int lat, .int und, .int kpl])), ((q 1), .inr (1, [.ref (q 2), .ref (q 4), .ref (q 6), .int len, .int ncl, .int spe, .int sru, .int sbe, .int sen])), ((q 2), .inr (0, [.ref (q 3)])), ((q 3), .inl (cI, 160, .inl lets)), ((q 4), .inr (0, [.ref (q 5)])), ((q 5), .inl (cI, 14, .inl wrds)), ((q 6), .inr (0, [.ref (q 7)])), ((q 7), .inl (cI, 42, .inl nums)), ((q 8), .inr (5, [.int tb, .int tp, .int tr, .ref (q 9), .ref (q 11), .ref (q 13), .ref (q 15)])), ((q 9), .inr (0, [.ref (q 10)])), ((q 10), .inl (cI, 6, .inl knd)), ((q 11), .inr (0, [.ref (q 12)])), ((q 12), .inl (cI, 6, .inl sec)), ((q 13), .inr (0, [.ref (q 14)])), ((q 14), .inl (cI, 36, .inl brd)), ((q 15), .inr (0, [.ref (q 16)])), ((q 16), .inl (cI, 8, .inl rms)), ((q 20), .inr (3, [.int sn, .ref (q 21), .ref (q 23), .ref (q 25)])), ((q 21), .inr (0, [.ref (q 22)])), ((q 22), .inl (cI, 6, .inl ss)), ((q 23), .inr (0, [.ref (q 24)])), ((q 24), .inl (cI, 6, .inl sb)), ((q 25), .inr (0, [.ref (q 26)])), ((q 26), .inl (cI, 6, .inl sp)), ((q 27), .inr (2, [.ref (q 28)])), ((q 28), .inr (0, [.ref (q 29)])), ((q 29), .inl (cI, 680, .inl past))] [30, 31, 32, 17, 18, 19] [0, 1, 2, 3, 4, 5, 6, 7, 8, 9, 10, 11, 12, 13, 14, 15, 16, 20, 21, 22, 23, 24, 25, 26, 27, 28, 29] [0, 1, 2, 3, 4, 5, 6, 7, 8, 9, 10, 11, 12, 13, 14, 15, 16, 30, 31, 32, 17, 18, 19, 20, 21, 22, 23, 24, 25, 26, 27, 28, 29] [q 30, q 31, q 32, q 17, q 18, q 19] ∧ kNd [30, 31, 32, 17, 18, 19] [0, 1, 2, 3, 4, 5, 6, 7, 8, 9, 10, 11, 12, 13, 14, 15, 16, 20, 21, 22, 23, 24, 25, 26, 27, 28, 29] [0, 1, 2, 3, 4, 5, 6, 7, 8, 9, 10, 11, 12, 13, 14, 15, 16, 30, 31, 32, 17, 18, 19, 20, 21, 22, 23, 24, 25, 26, 27, 28, 29] = true := ⟨⟨rfl, rfl, ⟨rfl, rfl⟩, rfl⟩, by decide +kernel⟩
set_option maxRecDepth 100000 in
set_option maxHeartbeats 4000000 in
theorem k_X6_keep (l : Launch) (D : va_G) (cI cZ : ClassId) (adK adV : Nat → Nat) (q : Nat → Nat) (lat : Int32) (und : Int32) (kpl : Int32) (len : Int32) (ncl : Int32) (spe : Int32) (sru : Int32) (sbe : Int32) (sen : Int32) (lets : Nat → Int32) (wrds : Nat → Int32) (nums : Nat → Int32) (tb : Int32) (tp : Int32) (tr : Int32) (knd : Nat → Int32) (sec : Nat → Int32) (brd : Nat → Int32) (rms : Nat → Int32) (std : Nat → Int32) (sn : Int32) (ss : Nat → Int32) (sb : Nat → Int32) (sp : Nat → Int32) (past : Nat → Int32) (kept : Nat → Int32) (k : Int32) : CI l D (kTy cI cZ) (kG adK adV) yX6_keep (.code yX6_keep cX6_keep 2 (some .int) :: wsL_law) rm_X6_keep [.ref (q 0), .int k] (wC cI q lat und kpl len ncl spe sru sbe sen lets wrds nums tb tp tr knd sec brd rms std sn ss sb sp past kept) (wC cI q lat und ((f_X6_keep kpl std kept k).2.1) len ncl spe sru sbe sen lets wrds nums tb tp tr knd sec brd rms std sn ss sb sp past ((f_X6_keep kpl std kept k).2.2)) ((f_X6_keep kpl std kept k).1) := by
  refine CI.of (cc := cX6_keep) (maxL := 2) (ty := .int) (by decide) rfl (Nat.le_of_ble_eq_true rfl) rfl ?_
  intro p e s m args below meth c A Q ls hx hb hml hts0 hown hA hP hK hD hE hl hret
  have hts : ∀ w ∈ wsL_law, w.before args s = true := fun w h => hts0 w (List.mem_cons_of_mem _ h)
  clear hts0
  have hown : s.vm.findClass RX6 = some m.cls := hown
  have hl : lv_has ls 2 [(0, .ref (q 0)), (1, .int k)] := hl
  have hS : va_S A s.heap s.heap [] := va_S.rf
  revert hP hS
  suffices hgo : ∀ (H : Heap) (locs : List Loc), va_P D vwCl (wC cI q lat und kpl len ncl spe sru sbe sen lets wrds nums tb tp tr knd sec brd rms std sn ss sb sp past kept) H → va_S A s.heap H locs → W p l e rm_X6_keep s m args below meth c H locs 0 0 Q (F0 m 0 ls []) from fun a b => hgo _ _ a b
  intro H locs hP hS
  refine lv_iload_n hx hb dX6_keep_0 rfl (lv_at hl 1 rfl) ?_
  refine lv_if_lt (tgt := 9) hx hb dX6_keep_1 (by decide) (fun c_1 => ?_) (fun c_1 => ?_)
  · skip
    refine lv_bipush (v := (-2)) hx hb dX6_keep_9 (by decide) ?_
    have hf : (f_X6_keep kpl std kept k) = ((-2), kpl, kept) := (if_pos c_1)
    rw [hf] at hret
    dsimp only at hret
    exact hret _ _ _ _ hP hS dX6_keep_11
  · skip
    refine lv_iload_n hx hb dX6_keep_4 rfl (lv_at hl 1 rfl) ?_
    refine lv_iconst (v := 2) hx hb dX6_keep_5 (by decide) ?_
    refine lv_icmp_lt (tgt := 12) hx hb dX6_keep_6 (by decide) (fun c_6 => ?_) (fun c_6 => ?_)
    · skip
      refine lv_aload_n hx hb dX6_keep_12 rfl (lv_at hl 0 rfl) ?_
      refine va_get (D := D) (ci := 6) (v := .ref (q 30)) (C := RX6) (T := TX6) (N := 9) hx hb hts inlX6 hown hK hP 0 rfl rfl 5 (by decide) (kw hts kin_2 8 rfl) (fun _ h9 => h9) rfl dX6_keep_13 ?_
      refine lv_iload_n hx hb dX6_keep_16 rfl (lv_at hl 1 rfl) ?_
      refine lv_aload_n hx hb dX6_keep_17 rfl (lv_at hl 0 rfl) ?_
      refine va_get (D := D) (ci := 6) (v := .ref (q 17)) (C := RX6) (T := TX6) (N := 9) hx hb hts inlX6 hown hK hP 0 rfl rfl 2 (by decide) (kw hts kin_1 23 rfl) (fun _ h9 => h9) rfl dX6_keep_18 ?_
      refine kvv (As := [.int k, .ref (q 17)]) (rest := []) (q0 := 0) (ci := 2) ⟨hx, hb, hml, hown, hts⟩ hP hK hD hS hA hE (k_X2_store l D cI cZ adK adV (q 30) (q 31) (q 32) 170 q kept std k (by decide)) (kcv hts kM_X2_store (kin_23 _ (List.mem_of_getElem? (i := 9) rfl)) ⟨rfl, rfl⟩ ⟨Nat.le_of_ble_eq_true rfl, Nat.le_of_ble_eq_true rfl⟩) kBl_G kOk_G (wC cI q lat und kpl len ncl spe sru sbe sen lets wrds nums tb tp tr knd sec brd rms std sn ss sb sp past (f_X2_store 170 kept std k)) (cut_c_shf_30_31_32_17_18_19 cI q lat und kpl len ncl spe sru sbe sen lets wrds nums tb tp tr knd sec brd rms std sn ss sb sp past kept (f_X2_store 170 kept std k) std).1 (cut_c_shf_30_31_32_17_18_19 cI q lat und kpl len ncl spe sru sbe sen lets wrds nums tb tp tr knd sec brd rms std sn ss sb sp past kept (f_X2_store 170 kept std k) std).2 rfl rfl rfl rfl hl.1 rfl (Nat.le_of_ble_eq_true rfl) dX6_keep_21 (fun H locs hP hD hS => ?_)
      refine lv_aload_n hx hb dX6_keep_24 rfl (lv_at hl 0 rfl) ?_
      refine lv_dup hx hb dX6_keep_25 rfl ?_
      refine va_get (D := D) (ci := 6) (v := .int kpl) (C := RX6) (T := TX6) (N := 9) hx hb hts inlX6 hown hK hP 0 rfl rfl 8 (by decide) (kw hts kin_2 11 rfl) (fun _ h9 => h9) rfl dX6_keep_26 ?_
      refine lv_iconst (v := 1) hx hb dX6_keep_29 (by decide) ?_
      refine lv_iload_n hx hb dX6_keep_30 rfl (lv_at hl 1 rfl) ?_
      refine lv_ishl hx hb dX6_keep_31 ?_
      refine lv_ior hx hb dX6_keep_32 ?_
      refine va_put (D := D) (ci := 6) (v := .int (kpl ||| (1 <<< (k &&& 31)))) (ty := .int) (C := RX6) (T := TX6) (N := 9) hx hb hts inlX6 tyX6 tyX6_ok nmX6 hown hK hP hD hS 0 rfl rfl 8 (by decide) (kw hts kin_2 11 rfl) (fun _ h9 => h9) rfl (by decide +kernel) rfl rfl (Nat.le_of_ble_eq_true rfl) dX6_keep_33 (fun H locs hP hD hS => ?_)
      have hP : va_P D vwCl (wC cI q lat und (kpl ||| (1 <<< (k &&& 31))) len ncl spe sru sbe sen lets wrds nums tb tp tr knd sec brd rms std sn ss sb sp past (f_X2_store 170 kept std k)) H := hP
      have hD : va_D A (wC cI q lat und (kpl ||| (1 <<< (k &&& 31))) len ncl spe sru sbe sen lets wrds nums tb tp tr knd sec brd rms std sn ss sb sp past (f_X2_store 170 kept std k)) := hD
      refine lv_aload_n hx hb dX6_keep_36 rfl (lv_at hl 0 rfl) ?_
      refine va_get (D := D) (ci := 6) (v := .ref (q 17)) (C := RX6) (T := TX6) (N := 9) hx hb hts inlX6 hown hK hP 0 rfl rfl 2 (by decide) (kw hts kin_1 23 rfl) (fun _ h9 => h9) rfl dX6_keep_37 ?_
      refine kvi (As := []) (rest := []) (q0 := 0) (ci := 4) ⟨hx, hb, hml, hown, hts⟩ hP hK hD hS hA hE (k_X4_date l D cI cZ adK adV q std) (kcv hts kM_X4_date (kin_25 _ (List.mem_of_getElem? (i := 11) rfl)) ⟨rfl, rfl⟩ ⟨Nat.le_of_ble_eq_true rfl, Nat.le_of_ble_eq_true rfl⟩) kBl_G kOk_G (wC cI q lat und (kpl ||| (1 <<< (k &&& 31))) len ncl spe sru sbe sen lets wrds nums tb tp tr knd sec brd rms std sn ss sb sp past (f_X2_store 170 kept std k)) (cut_c_std cI q lat und (kpl ||| (1 <<< (k &&& 31))) len ncl spe sru sbe sen lets wrds nums tb tp tr knd sec brd rms std sn ss sb sp past (f_X2_store 170 kept std k) std).1 (cut_c_std cI q lat und (kpl ||| (1 <<< (k &&& 31))) len ncl spe sru sbe sen lets wrds nums tb tp tr knd sec brd rms std sn ss sb sp past (f_X2_store 170 kept std k) std).2 rfl rfl rfl rfl hl.1 rfl (Nat.le_of_ble_eq_true rfl) dX6_keep_40 (fun H locs hP hD hS => ?_)
      have hf : (f_X6_keep kpl std kept k) = ((f_X4_date std), (kpl ||| (1 <<< (k &&& 31))), (f_X2_store 170 kept std k)) := ((if_neg c_1).trans (if_pos c_6))
      rw [hf] at hret
      dsimp only at hret
      exact hret _ _ _ _ hP hS dX6_keep_43
    · skip
      refine lv_bipush (v := (-2)) hx hb dX6_keep_9 (by decide) ?_
      have hf : (f_X6_keep kpl std kept k) = ((-2), kpl, kept) := ((if_neg c_1).trans (if_neg c_6))
      rw [hf] at hret
      dsimp only at hret
      exact hret _ _ _ _ hP hS dX6_keep_11
