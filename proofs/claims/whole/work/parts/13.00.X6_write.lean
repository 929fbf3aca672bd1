def f_X6_write (len : Int32) (lets : Nat → Int32) (letter : Int32) : Int32 × Int32 × (Nat → Int32) := if letter < 0 then ((-3), len, lets) else (if letter ≤ 255 then (if len < 160 then (((f_X1_addLetter len lets letter).1), (f_X1_addLetter len lets letter).1, (f_X1_addLetter len lets letter).2) else ((-5), len, lets)) else ((-3), len, lets))
abbrev rm_X6_write : Room := { frames := 2, cells := 0, slots := 0, locals := 43 }
set_option maxRecDepth 100000 in
theorem cut_c_scr (cI : ClassId) (q : Nat → Nat) (lat : Int32) (und : Int32) (kpl : Int32) (len : Int32) (ncl : Int32) (spe : Int32) (sru : Int32) (sbe : Int32) (sen : Int32) (lets : Nat → Int32) (wrds : Nat → Int32) (nums : Nat → Int32) (tb : Int32) (tp : Int32) (tr : Int32) (knd : Nat → Int32) (sec : Nat → Int32) (brd : Nat → Int32) (rms : Nat → Int32) (std : Nat → Int32) (sn : Int32) (ss : Nat → Int32) (sb : Nat → Int32) (sp : Nat → Int32) (past : Nat → Int32) (kept : Nat → Int32) (n_len : Int32) (n_ncl : Int32) (n_spe : Int32) (n_sru : Int32) (n_sbe : Int32) (n_sen : Int32) (n_lets : Nat → Int32) (n_wrds : Nat → Int32) (n_nums : Nat → Int32) : kCut (wC cI q lat und kpl len ncl spe sru sbe sen lets wrds nums tb tp tr knd sec brd rms std sn ss sb sp past kept) (wScr cI q len ncl spe sru sbe sen lets wrds nums) (wScr cI q n_len n_ncl n_spe n_sru n_sbe n_sen n_lets n_wrds n_nums) (wC cI q lat und kpl n_len n_ncl n_spe n_sru n_sbe n_sen n_lets n_wrds n_nums tb tp tr knd sec brd rms std sn ss sb sp past kept) [((q 0), .inr (6, [.ref (q 1), .ref (q 8), .ref (q 17), .ref (q 20), .ref (q 27), .ref (q 30), .int lat, .int und, .int kpl])), ((q 8), .inr (5, [.int tb, .int tp, .int tr, .ref (q 9), .ref (q 11), .ref (q 13), .ref (q 15)])), ((q 9), .inr (0, [.ref (q 10)])), ((q 10), .inl (cI, 6, .inl knd)), ((q 11), .inr (0, [.ref (q 12)])), ((q 12), .inl (cI, 6, .inl sec)), ((q 13), .inr (0, [.ref (q 14)])), ((q 14), .inl (cI, 36, .inl brd)), ((q 15), .inr (0, [.ref (q 16)])), ((q 16), .inl (cI, 8, .inl rms)), ((q 17), .inr (4, [.ref (q 18)])), ((q 18), .inr (0, [.ref (q 19)])), ((q 19), .inl (cI, 85, .inl std)), ((q 20), .inr (3, [.int sn, .ref (q 21), .ref (q 23), .ref (q 25)])), ((q 21), .inr (0, [.ref (q 22)])), ((q 22), .inl (cI, 6, .inl ss)), ((q 23), .inr (0, [.ref (q 24)])), ((q 24), .inl (cI, 6, .inl sb)), ((q 25), .inr (0, [.ref (q 26)])), ((q 26), .inl (cI, 6, .inl sp)), ((q 27), .inr (2, [.ref (q 28)])), ((q 28), .inr (0, [.ref (q 29)])), ((q 29), .inl (cI, 680, .inl past)), ((q 30), .inr (2, [.ref (q 31)])), ((q 31), .inr (0, [.ref (q 32)])), ((q 32), .inl (cI, 170, .inl kept))] [1, 2, 3, 4, 5, 6, 7] [0, 8, 9, 10, 11, 12, 13, 14, 15, 16, 17, 18, 19, 20, 21, 22, 23, 24, 25, 26, 27, 28, 29, 30, 31, 32] [0, 26, 27, 28, 29, 30, 31, 32, 1, 2, 3, 4, 5, 6, 7, 8, 9, 10, 11, 12, 13, 14, 15, 16, 17, 18, 19, 20, 21, 22, 23, 24, 25] [q 1, q 2, q 3, q 4, q 5, q 6, q 7] ∧ kNd [1, 2, 3, 4, 5, 6, 7] [0, 8, 9, 10, 11, 12, 13, 14, 15, 16, 17, 18, 19, 20, 21, 22, 23, 24, 25, 26, 27, 28, 29, 30, 31, 32] [0, 26, 27, 28, 29, 30, 31, 32, 1, 2, 3, 4, 5, 6, 7, 8, 9, 10, 11, 12, 13, 14, 15, 16, 17, 18, 19, 20, 21, 22, 23, 24, 25] = true := ⟨⟨rfl, rfl, ⟨rfl, rfl⟩, rfl⟩, by decide +kernel⟩
set_option maxRecDepth 100000 in
set_option maxHeartbeats 4000000 in
theorem k_X6_write (l : Launch) (D : va_G) (cI cZ : ClassId) (adK adV : Nat → Nat) (q : Nat → Nat) (lat : Int32) (und : Int32) (kpl : Int32) (len : Int32) (ncl : Int32) (spe : Int32) (sru : Int32) (sbe : Int32) (sen : Int32) (lets : Nat → Int32) (wrds : Nat → Int32) (nums : Nat → Int32) (tb : Int32) (tp : Int32) (tr : Int32) (knd : Nat → Int32) (sec : Nat → Int32) (brd : Nat → Int32) (rms : Nat → Int32) (std : Nat → Int32) (sn : Int32) (ss : Nat → Int32) (sb : Nat → Int32) (sp : Nat → Int32) (past : Nat → Int32) (kept : Nat → Int32) (letter : Int32) : CI l D (kTy cI cZ) (kG adK adV) yX6_write (.code yX6_write cX6_write 2 (some .int) :: wsL_law) rm_X6_write [.ref (q 0), .int letter] (wC cI q lat und kpl len ncl spe sru sbe sen lets wrds nums tb tp tr knd sec brd rms std sn ss sb sp past kept) (wC cI q lat und kpl ((f_X6_write len lets letter).2.1) ncl spe sru sbe sen ((f_X6_write len lets letter).2.2) wrds nums tb tp tr knd sec brd rms std sn ss sb sp past kept) ((f_X6_write len lets letter).1) := by
  refine CI.of (cc := cX6_write) (maxL := 2) (ty := .int) (by decide) rfl (Nat.le_of_ble_eq_true rfl) rfl ?_
  intro p e s m args below meth c A Q ls hx hb hml hts0 hown hA hP hK hD hE hl hret
  have hts : ∀ w ∈ wsL_law, w.before args s = true := fun w h => hts0 w (List.mem_cons_of_mem _ h)
  clear hts0
  have hown : s.vm.findClass RX6 = some m.cls := hown
  have hl : lv_has ls 2 [(0, .ref (q 0)), (1, .int letter)] := hl
  have hS : va_S A s.heap s.heap [] := va_S.rf
  revert hP hS
  suffices hgo : ∀ (H : Heap) (locs : List Loc), va_P D vwCl (wC cI q lat und kpl len ncl spe sru sbe sen lets wrds nums tb tp tr knd sec brd rms std sn ss sb sp past kept) H → va_S A s.heap H locs → W p l e rm_X6_write s m args below meth c H locs 0 0 Q (F0 m 0 ls []) from fun a b => hgo _ _ a b
  intro H locs hP hS
  refine lv_iload_n hx hb dX6_write_0 rfl (lv_at hl 1 rfl) ?_
  refine lv_if_lt (tgt := 11) hx hb dX6_write_1 (by decide) (fun c_1 => ?_) (fun c_1 => ?_)
  · skip
    refine lv_bipush (v := (-3)) hx hb dX6_write_11 (by decide) ?_
    have hf : (f_X6_write len lets letter) = ((-3), len, lets) := (if_pos c_1)
    rw [hf] at hret
    dsimp only at hret
    exact hret _ _ _ _ hP hS dX6_write_13
  · skip
    refine lv_iload_n hx hb dX6_write_4 rfl (lv_at hl 1 rfl) ?_
    refine lv_sipush (v := 255) hx hb dX6_write_5 (by decide) ?_
    refine lv_icmp_le (tgt := 14) hx hb dX6_write_8 (by decide) (fun c_8 => ?_) (fun c_8 => ?_)
    · skip
      refine lv_aload_n hx hb dX6_write_14 rfl (lv_at hl 0 rfl) ?_
      refine va_get (D := D) (ci := 6) (v := .ref (q 1)) (C := RX6) (T := TX6) (N := 9) hx hb hts inlX6 hown hK hP 0 rfl rfl 0 (by decide) (kw hts kin_1 15 rfl) (fun _ h9 => h9) rfl dX6_write_15 ?_
      refine va_get (D := D) (ci := 1) (v := .int len) (C := RX1) (T := TX1) (N := 9) hx hb hts inlX1 hown hK hP 1 rfl rfl 3 (by decide) (kw hts kin_5 11 rfl) (fun _ h9 => h9) rfl dX6_write_18 ?_
      refine lv_sipush (v := 160) hx hb dX6_write_21 (by decide) ?_
      refine lv_icmp_lt (tgt := 30) hx hb dX6_write_24 (by decide) (fun c_24 => ?_) (fun c_24 => ?_)
      · skip
        refine lv_aload_n hx hb dX6_write_30 rfl (lv_at hl 0 rfl) ?_
        refine va_get (D := D) (ci := 6) (v := .ref (q 1)) (C := RX6) (T := TX6) (N := 9) hx hb hts inlX6 hown hK hP 0 rfl rfl 0 (by decide) (kw hts kin_1 15 rfl) (fun _ h9 => h9) rfl dX6_write_31 ?_
        refine lv_iload_n hx hb dX6_write_34 rfl (lv_at hl 1 rfl) ?_
        refine kvv (As := [.int letter]) (rest := []) (q0 := 0) (ci := 1) ⟨hx, hb, hml, hown, hts⟩ hP hK hD hS hA hE (k_X1_addLetter l D cI cZ adK adV q len ncl spe sru sbe sen lets wrds nums letter) (kcv hts kM_X1_addLetter (kin_5 _ (List.mem_of_getElem? (i := 12) rfl)) ⟨rfl, rfl⟩ ⟨Nat.le_of_ble_eq_true rfl, Nat.le_of_ble_eq_true rfl⟩) kBl_G kOk_G (wC cI q lat und kpl ((f_X1_addLetter len lets letter).1) ncl spe sru sbe sen ((f_X1_addLetter len lets letter).2) wrds nums tb tp tr knd sec brd rms std sn ss sb sp past kept) (cut_c_scr cI q lat und kpl len ncl spe sru sbe sen lets wrds nums tb tp tr knd sec brd rms std sn ss sb sp past kept ((f_X1_addLetter len lets letter).1) ncl spe sru sbe sen ((f_X1_addLetter len lets letter).2) wrds nums).1 (cut_c_scr cI q lat und kpl len ncl spe sru sbe sen lets wrds nums tb tp tr knd sec brd rms std sn ss sb sp past kept ((f_X1_addLetter len lets letter).1) ncl spe sru sbe sen ((f_X1_addLetter len lets letter).2) wrds nums).2 rfl rfl rfl rfl hl.1 rfl (Nat.le_of_ble_eq_true rfl) dX6_write_35 (fun H locs hP hD hS => ?_)
        refine lv_aload_n hx hb dX6_write_38 rfl (lv_at hl 0 rfl) ?_
        refine va_get (D := D) (ci := 6) (v := .ref (q 1)) (C := RX6) (T := TX6) (N := 9) hx hb hts inlX6 hown hK hP 0 rfl rfl 0 (by decide) (kw hts kin_1 15 rfl) (fun _ h9 => h9) rfl dX6_write_39 ?_
        refine va_get (D := D) (ci := 1) (v := .int ((f_X1_addLetter len lets letter).1)) (C := RX1) (T := TX1) (N := 9) hx hb hts inlX1 hown hK hP 1 rfl rfl 3 (by decide) (kw hts kin_5 11 rfl) (fun _ h9 => h9) rfl dX6_write_42 ?_
        have hf : (f_X6_write len lets letter) = (((f_X1_addLetter len lets letter).1), (f_X1_addLetter len lets letter).1, (f_X1_addLetter len lets letter).2) := ((if_neg c_1).trans ((if_pos c_8).trans (if_pos c_24)))
        rw [hf] at hret
        dsimp only at hret
        exact hret _ _ _ _ hP hS dX6_write_45
      · skip
        refine lv_bipush (v := (-5)) hx hb dX6_write_27 (by decide) ?_
        have hf : (f_X6_write len lets letter) = ((-5), len, lets) := ((if_neg c_1).trans ((if_pos c_8).trans (if_neg c_24)))
        rw [hf] at hret
        dsimp only at hret
        exact hret _ _ _ _ hP hS dX6_write_29
    · skip
      refine lv_bipush (v := (-3)) hx hb dX6_write_11 (by decide) ?_
      have hf : (f_X6_write len lets letter) = ((-3), len, lets) := ((if_neg c_1).trans (if_neg c_8))
      rw [hf] at hret
      dsimp only at hret
      exact hret _ _ _ _ hP hS dX6_write_13
