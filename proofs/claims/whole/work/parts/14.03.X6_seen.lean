def f_X6_seen (sn : Int32) (ss : Nat → Int32) (sb : Nat → Int32) (sp : Nat → Int32) (strip : Int32) (beard : Int32) (part : Int32) : Int32 × Int32 × (Nat → Int32) × (Nat → Int32) × (Nat → Int32) := if (f_X6_isStrip strip) = 0 then ((-2), sn, ss, sb, sp) else (if beard < 0 then ((-3), sn, ss, sb, sp) else (if beard ≤ 9 then (if part = 0 then (if sn < 6 then (((f_X3_add sn ss sb sp strip beard part).1), (f_X3_add sn ss sb sp strip beard part).1, (f_X3_add sn ss sb sp strip beard part).2.1, (f_X3_add sn ss sb sp strip beard part).2.2.1, (f_X3_add sn ss sb sp strip beard part).2.2.2) else ((-5), sn, ss, sb, sp)) else (if part = 1 then (if sn < 6 then (((f_X3_add sn ss sb sp strip beard part).1), (f_X3_add sn ss sb sp strip beard part).1, (f_X3_add sn ss sb sp strip beard part).2.1, (f_X3_add sn ss sb sp strip beard part).2.2.1, (f_X3_add sn ss sb sp strip beard part).2.2.2) else ((-5), sn, ss, sb, sp)) else (if part = (-1) then (if sn < 6 then (((f_X3_add sn ss sb sp strip beard part).1), (f_X3_add sn ss sb sp strip beard part).1, (f_X3_add sn ss sb sp strip beard part).2.1, (f_X3_add sn ss sb sp strip beard part).2.2.1, (f_X3_add sn ss sb sp strip beard part).2.2.2) else ((-5), sn, ss, sb, sp)) else ((-3), sn, ss, sb, sp)))) else ((-3), sn, ss, sb, sp)))
abbrev rm_X6_seen : Room := { frames := 2, cells := 0, slots := 0, locals := 45 }
set_option maxRecDepth 100000 in
theorem cut_c_see (cI : ClassId) (q : Nat → Nat) (lat : Int32) (und : Int32) (kpl : Int32) (len : Int32) (ncl : Int32) (spe : Int32) (sru : Int32) (sbe : Int32) (sen : Int32) (lets : Nat → Int32) (wrds : Nat → Int32) (nums : Nat → Int32) (tb : Int32) (tp : Int32) (tr : Int32) (knd : Nat → Int32) (sec : Nat → Int32) (brd : Nat → Int32) (rms : Nat → Int32) (std : Nat → Int32) (sn : Int32) (ss : Nat → Int32) (sb : Nat → Int32) (sp : Nat → Int32) (past : Nat → Int32) (kept : Nat → Int32) (n_sn : Int32) (n_ss : Nat → Int32) (n_sb : Nat → Int32) (n_sp : Nat → Int32) : kCut (wC cI q lat und kpl len ncl spe sru sbe sen lets wrds nums tb tp tr knd sec brd rms std sn ss sb sp past kept) (wSee cI q sn ss sb sp) (wSee cI q n_sn n_ss n_sb n_sp) (wC cI q lat und kpl len ncl spe sru sbe sen lets wrds nums tb tp tr knd sec brd rms std n_sn n_ss n_sb n_sp past kept) [((q 0), .inr (6, [.ref (q 1), .ref (q 8), .ref (q 17), .ref (q 20), .ref (q 27), .ref (q 30), .int lat, .int und, .int kpl])), ((q 1), .inr (1, [.ref (q 2), .ref (q 4), .ref (q 6), .int len, .int ncl, .int spe, .int sru, .int sbe, .int sen])), ((q 2), .inr (0, [.ref (q 3)])), ((q 3), .inl (cI, 160, .inl lets)), ((q 4), .inr (0, [.ref (q 5)])), ((q 5), .inl (cI, 14, .inl wrds)), ((q 6), .inr (0, [.ref (q 7)])), ((q 7), .inl (cI, 42, .inl nums)), ((q 8), .inr (5, [.int tb, .int tp, .int tr, .ref (q 9), .ref (q 11), .ref (q 13), .ref (q 15)])), ((q 9), .inr (0, [.ref (q 10)])), ((q 10), .inl (cI, 6, .inl knd)), ((q 11), .inr (0, [.ref (q 12)])), ((q 12), .inl (cI, 6, .inl sec)), ((q 13), .inr (0, [.ref (q 14)])), ((q 14), .inl (cI, 36, .inl brd)), ((q 15), .inr (0, [.ref (q 16)])), ((q 16), .inl (cI, 8, .inl rms)), ((q 17), .inr (4, [.ref (q 18)])), ((q 18), .inr (0, [.ref (q 19)])), ((q 19), .inl (cI, 85, .inl std)), ((q 27), .inr (2, [.ref (q 28)])), ((q 28), .inr (0, [.ref (q 29)])), ((q 29), .inl (cI, 680, .inl past)), ((q 30), .inr (2, [.ref (q 31)])), ((q 31), .inr (0, [.ref (q 32)])), ((q 32), .inl (cI, 170, .inl kept))] [20, 21, 22, 23, 24, 25, 26] [0, 1, 2, 3, 4, 5, 6, 7, 8, 9, 10, 11, 12, 13, 14, 15, 16, 17, 18, 19, 27, 28, 29, 30, 31, 32] [0, 1, 2, 3, 4, 5, 6, 7, 8, 9, 10, 11, 12, 13, 14, 15, 16, 17, 18, 19, 26, 27, 28, 29, 30, 31, 32, 20, 21, 22, 23, 24, 25] [q 20, q 21, q 22, q 23, q 24, q 25, q 26] ∧ kNd [20, 21, 22, 23, 24, 25, 26] [0, 1, 2, 3, 4, 5, 6, 7, 8, 9, 10, 11, 12, 13, 14, 15, 16, 17, 18, 19, 27, 28, 29, 30, 31, 32] [0, 1, 2, 3, 4, 5, 6, 7, 8, 9, 10, 11, 12, 13, 14, 15, 16, 17, 18, 19, 26, 27, 28, 29, 30, 31, 32, 20, 21, 22, 23, 24, 25] = true := ⟨⟨rfl, rfl, ⟨rfl, rfl⟩, rfl⟩, by decide +kernel⟩
set_option maxRecDepth 100000 in
set_option maxHeartbeats 4000000 in
theorem k_X6_seen (l : Launch) (D : va_G) (cI cZ : ClassId) (adK adV : Nat → Nat) (q : Nat → Nat) (lat : Int32) (und : Int32) (kpl : Int32) (len : Int32) (ncl : Int32) (spe : Int32) (sru : Int32) (sbe : Int32) (sen : Int32) (lets : Nat → Int32) (wrds : Nat → Int32) (nums : Nat → Int32) (tb : Int32) (tp : Int32) (tr : Int32) (knd : Nat → Int32) (sec : Nat → Int32) (brd : Nat → Int32) (rms : Nat → Int32) (std : Nat → Int32) (sn : Int32) (ss : Nat → Int32) (sb : Nat → Int32) (sp : Nat → Int32) (past : Nat → Int32) (kept : Nat → Int32) (strip : Int32) (beard : Int32) (part : Int32) : CI l D (kTy cI cZ) (kG adK adV) yX6_seen (.code yX6_seen cX6_seen 4 (some .int) :: wsL_law) rm_X6_seen [.ref (q 0), .int strip, .int beard, .int part] (wC cI q lat und kpl len ncl spe sru sbe sen lets wrds nums tb tp tr knd sec brd rms std sn ss sb sp past kept) (wC cI q lat und kpl len ncl spe sru sbe sen lets wrds nums tb tp tr knd sec brd rms std ((f_X6_seen sn ss sb sp strip beard part).2.1) ((f_X6_seen sn ss sb sp strip beard part).2.2.1) ((f_X6_seen sn ss sb sp strip beard part).2.2.2.1) ((f_X6_seen sn ss sb sp strip beard part).2.2.2.2) past kept) ((f_X6_seen sn ss sb sp strip beard part).1) := by
  refine CI.of (cc := cX6_seen) (maxL := 4) (ty := .int) (by decide) rfl (Nat.le_of_ble_eq_true rfl) rfl ?_
  intro p e s m args below meth c A Q ls hx hb hml hts0 hown hA hP hK hD hE hl hret
  have hts : ∀ w ∈ wsL_law, w.before args s = true := fun w h => hts0 w (List.mem_cons_of_mem _ h)
  clear hts0
  have hown : s.vm.findClass RX6 = some m.cls := hown
  have hl : lv_has ls 4 [(0, .ref (q 0)), (1, .int strip), (2, .int beard), (3, .int part)] := hl
  have hS : va_S A s.heap s.heap [] := va_S.rf
  revert hP hS
  suffices hgo : ∀ (H : Heap) (locs : List Loc), va_P D vwCl (wC cI q lat und kpl len ncl spe sru sbe sen lets wrds nums tb tp tr knd sec brd rms std sn ss sb sp past kept) H → va_S A s.heap H locs → W p l e rm_X6_seen s m args below meth c H locs 0 0 Q (F0 m 0 ls []) from fun a b => hgo _ _ a b
  intro H locs hP hS
  refine lv_iload_n hx hb dX6_seen_0 rfl (lv_at hl 1 rfl) ?_
  refine ksi (As := [.int strip]) (rest := []) ⟨hx, hb, hml, hown, hts⟩ hP hK hD hS hA hE (k_X6_isStrip l D cI cZ adK adV strip) (kcs hts kM_X6_isStrip (kin_18 _ (List.mem_of_getElem? (i := 22) rfl)) ⟨rfl, rfl⟩ ⟨Nat.le_of_ble_eq_true rfl, Nat.le_of_ble_eq_true rfl⟩) kBl_G kOk_G rfl hl.1 rfl (Nat.le_of_ble_eq_true rfl) dX6_seen_1 (fun H locs hP hD hS => ?_)
  refine lv_if_ne (tgt := 10) hx hb dX6_seen_4 (by decide) (fun c_4 => ?_) (fun c_4 => ?_)
  · skip
    refine lv_iload_n hx hb dX6_seen_10 rfl (lv_at hl 2 rfl) ?_
    refine lv_if_lt (tgt := 20) hx hb dX6_seen_11 (by decide) (fun c_11 => ?_) (fun c_11 => ?_)
    · skip
      refine lv_bipush (v := (-3)) hx hb dX6_seen_20 (by decide) ?_
      have hf : (f_X6_seen sn ss sb sp strip beard part) = ((-3), sn, ss, sb, sp) := ((if_neg c_4).trans (if_pos c_11))
      rw [hf] at hret
      dsimp only at hret
      exact hret _ _ _ _ hP hS dX6_seen_22
    · skip
      refine lv_iload_n hx hb dX6_seen_14 rfl (lv_at hl 2 rfl) ?_
      refine lv_bipush (v := 9) hx hb dX6_seen_15 (by decide) ?_
      refine lv_icmp_le (tgt := 23) hx hb dX6_seen_17 (by decide) (fun c_17 => ?_) (fun c_17 => ?_)
      · skip
        refine lv_iload_n hx hb dX6_seen_23 rfl (lv_at hl 3 rfl) ?_
        refine lv_if_eq (tgt := 40) hx hb dX6_seen_24 (by decide) (fun c_24 => ?_) (fun c_24 => ?_)
        · skip
          refine lv_aload_n hx hb dX6_seen_40 rfl (lv_at hl 0 rfl) ?_
          refine va_get (D := D) (ci := 6) (v := .ref (q 20)) (C := RX6) (T := TX6) (N := 9) hx hb hts inlX6 hown hK hP 0 rfl rfl 3 (by decide) (kw hts kin_2 3 rfl) (fun _ h9 => h9) rfl dX6_seen_41 ?_
          refine va_get (D := D) (ci := 3) (v := .int sn) (C := RX3) (T := TX3) (N := 4) hx hb hts inlX3 hown hK hP 20 rfl rfl 0 (by decide) (kw hts kin_31 9 rfl) (fun _ h9 => h9) rfl dX6_seen_44 ?_
          refine lv_bipush (v := 6) hx hb dX6_seen_47 (by decide) ?_
          refine lv_icmp_lt (tgt := 55) hx hb dX6_seen_49 (by decide) (fun c_49 => ?_) (fun c_49 => ?_)
          · skip
            refine lv_aload_n hx hb dX6_seen_55 rfl (lv_at hl 0 rfl) ?_
            refine va_get (D := D) (ci := 6) (v := .ref (q 20)) (C := RX6) (T := TX6) (N := 9) hx hb hts inlX6 hown hK hP 0 rfl rfl 3 (by decide) (kw hts kin_2 3 rfl) (fun _ h9 => h9) rfl dX6_seen_56 ?_
            refine lv_iload_n hx hb dX6_seen_59 rfl (lv_at hl 1 rfl) ?_
            refine lv_iload_n hx hb dX6_seen_60 rfl (lv_at hl 2 rfl) ?_
            refine lv_iload_n hx hb dX6_seen_61 rfl (lv_at hl 3 rfl) ?_
            refine kvv (As := [.int strip, .int beard, .int part]) (rest := []) (q0 := 0) (ci := 3) ⟨hx, hb, hml, hown, hts⟩ hP hK hD hS hA hE (k_X3_add l D cI cZ adK adV q sn ss sb sp strip beard part) (kcv hts kM_X3_add (kin_31 _ (List.mem_of_getElem? (i := 10) rfl)) ⟨rfl, rfl⟩ ⟨Nat.le_of_ble_eq_true rfl, Nat.le_of_ble_eq_true rfl⟩) kBl_G kOk_G (wC cI q lat und kpl len ncl spe sru sbe sen lets wrds nums tb tp tr knd sec brd rms std ((f_X3_add sn ss sb sp strip beard part).1) ((f_X3_add sn ss sb sp strip beard part).2.1) ((f_X3_add sn ss sb sp strip beard part).2.2.1) ((f_X3_add sn ss sb sp strip beard part).2.2.2) past kept) (cut_c_see cI q lat und kpl len ncl spe sru sbe sen lets wrds nums tb tp tr knd sec brd rms std sn ss sb sp past kept ((f_X3_add sn ss sb sp strip beard part).1) ((f_X3_add sn ss sb sp strip beard part).2.1) ((f_X3_add sn ss sb sp strip beard part).2.2.1) ((f_X3_add sn ss sb sp strip beard part).2.2.2)).1 (cut_c_see cI q lat und kpl len ncl spe sru sbe sen lets wrds nums tb tp tr knd sec brd rms std sn ss sb sp past kept ((f_X3_add sn ss sb sp strip beard part).1) ((f_X3_add sn ss sb sp strip beard part).2.1) ((f_X3_add sn ss sb sp strip beard part).2.2.1) ((f_X3_add sn ss sb sp strip beard part).2.2.2)).2 rfl rfl rfl rfl hl.1 rfl (Nat.le_of_ble_eq_true rfl) dX6_seen_62 (fun H locs hP hD hS => ?_)
            refine lv_aload_n hx hb dX6_seen_65 rfl (lv_at hl 0 rfl) ?_
            refine va_get (D := D) (ci := 6) (v := .ref (q 20)) (C := RX6) (T := TX6) (N := 9) hx hb hts inlX6 hown hK hP 0 rfl rfl 3 (by decide) (kw hts kin_2 3 rfl) (fun _ h9 => h9) rfl dX6_seen_66 ?_
            refine va_get (D := D) (ci := 3) (v := .int ((f_X3_add sn ss sb sp strip beard part).1)) (C := RX3) (T := TX3) (N := 4) hx hb hts inlX3 hown hK hP 20 rfl rfl 0 (by decide) (kw hts kin_31 9 rfl) (fun _ h9 => h9) rfl dX6_seen_69 ?_
            have hf : (f_X6_seen sn ss sb sp strip beard part) = (((f_X3_add sn ss sb sp strip beard part).1), (f_X3_add sn ss sb sp strip beard part).1, (f_X3_add sn ss sb sp strip beard part).2.1, (f_X3_add sn ss sb sp strip beard part).2.2.1, (f_X3_add sn ss sb sp strip beard part).2.2.2) := ((if_neg c_4).trans ((if_neg c_11).trans ((if_pos c_17).trans ((if_pos c_24).trans (if_pos c_49)))))
            rw [hf] at hret
            dsimp only at hret
            exact hret _ _ _ _ hP hS dX6_seen_72
          · skip
            refine lv_bipush (v := (-5)) hx hb dX6_seen_52 (by decide) ?_
            have hf : (f_X6_seen sn ss sb sp strip beard part) = ((-5), sn, ss, sb, sp) := ((if_neg c_4).trans ((if_neg c_11).trans ((if_pos c_17).trans ((if_pos c_24).trans (if_neg c_49)))))
            rw [hf] at hret
            dsimp only at hret
            exact hret _ _ _ _ hP hS dX6_seen_54
        · skip
          refine lv_iload_n hx hb dX6_seen_27 rfl (lv_at hl 3 rfl) ?_
          refine lv_iconst (v := 1) hx hb dX6_seen_28 (by decide) ?_
          refine lv_icmp_eq (tgt := 40) hx hb dX6_seen_29 (by decide) (fun c_29 => ?_) (fun c_29 => ?_)
          · skip
            refine lv_aload_n hx hb dX6_seen_40 rfl (lv_at hl 0 rfl) ?_
            refine va_get (D := D) (ci := 6) (v := .ref (q 20)) (C := RX6) (T := TX6) (N := 9) hx hb hts inlX6 hown hK hP 0 rfl rfl 3 (by decide) (kw hts kin_2 3 rfl) (fun _ h9 => h9) rfl dX6_seen_41 ?_
            refine va_get (D := D) (ci := 3) (v := .int sn) (C := RX3) (T := TX3) (N := 4) hx hb hts inlX3 hown hK hP 20 rfl rfl 0 (by decide) (kw hts kin_31 9 rfl) (fun _ h9 => h9) rfl dX6_seen_44 ?_
            refine lv_bipush (v := 6) hx hb dX6_seen_47 (by decide) ?_
            refine lv_icmp_lt (tgt := 55) hx hb dX6_seen_49 (by decide) (fun c_49 => ?_) (fun c_49 => ?_)
            · skip
              refine lv_aload_n hx hb dX6_seen_55 rfl (lv_at hl 0 rfl) ?_
              refine va_get (D := D) (ci := 6) (v := .ref (q 20)) (C := RX6) (T := TX6) (N := 9) hx hb hts inlX6 hown hK hP 0 rfl rfl 3 (by decide) (kw hts kin_2 3 rfl) (fun _ h9 => h9) rfl dX6_seen_56 ?_
              refine lv_iload_n hx hb dX6_seen_59 rfl (lv_at hl 1 rfl) ?_
              refine lv_iload_n hx hb dX6_seen_60 rfl (lv_at hl 2 rfl) ?_
              refine lv_iload_n hx hb dX6_seen_61 rfl (lv_at hl 3 rfl) ?_
              refine kvv (As := [.int strip, .int beard, .int part]) (rest := []) (q0 := 0) (ci := 3) ⟨hx, hb, hml, hown, hts⟩ hP hK hD hS hA hE (k_X3_add l D cI cZ adK adV q sn ss sb sp strip beard part) (kcv hts kM_X3_add (kin_31 _ (List.mem_of_getElem? (i := 10) rfl)) ⟨rfl, rfl⟩ ⟨Nat.le_of_ble_eq_true rfl, Nat.le_of_ble_eq_true rfl⟩) kBl_G kOk_G (wC cI q lat und kpl len ncl spe sru sbe sen lets wrds nums tb tp tr knd sec brd rms std ((f_X3_add sn ss sb sp strip beard part).1) ((f_X3_add sn ss sb sp strip beard part).2.1) ((f_X3_add sn ss sb sp strip beard part).2.2.1) ((f_X3_add sn ss sb sp strip beard part).2.2.2) past kept) (cut_c_see cI q lat und kpl len ncl spe sru sbe sen lets wrds nums tb tp tr knd sec brd rms std sn ss sb sp past kept ((f_X3_add sn ss sb sp strip beard part).1) ((f_X3_add sn ss sb sp strip beard part).2.1) ((f_X3_add sn ss sb sp strip beard part).2.2.1) ((f_X3_add sn ss sb sp strip beard part).2.2.2)).1 (cut_c_see cI q lat und kpl len ncl spe sru sbe sen lets wrds nums tb tp tr knd sec brd rms std sn ss sb sp past kept ((f_X3_add sn ss sb sp strip beard part).1) ((f_X3_add sn ss sb sp strip beard part).2.1) ((f_X3_add sn ss sb sp strip beard part).2.2.1) ((f_X3_add sn ss sb sp strip beard part).2.2.2)).2 rfl rfl rfl rfl hl.1 rfl (Nat.le_of_ble_eq_true rfl) dX6_seen_62 (fun H locs hP hD hS => ?_)
              refine lv_aload_n hx hb dX6_seen_65 rfl (lv_at hl 0 rfl) ?_
              refine va_get (D := D) (ci := 6) (v := .ref (q 20)) (C := RX6) (T := TX6) (N := 9) hx hb hts inlX6 hown hK hP 0 rfl rfl 3 (by decide) (kw hts kin_2 3 rfl) (fun _ h9 => h9) rfl dX6_seen_66 ?_
              refine va_get (D := D) (ci := 3) (v := .int ((f_X3_add sn ss sb sp strip beard part).1)) (C := RX3) (T := TX3) (N := 4) hx hb hts inlX3 hown hK hP 20 rfl rfl 0 (by decide) (kw hts kin_31 9 rfl) (fun _ h9 => h9) rfl dX6_seen_69 ?_
              have hf : (f_X6_seen sn ss sb sp strip beard part) = (((f_X3_add sn ss sb sp strip beard part).1), (f_X3_add sn ss sb sp strip beard part).1, (f_X3_add sn ss sb sp strip beard part).2.1, (f_X3_add sn ss sb sp strip beard part).2.2.1, (f_X3_add sn ss sb sp strip beard part).2.2.2) := ((if_neg c_4).trans ((if_neg c_11).trans ((if_pos c_17).trans ((if_neg c_24).trans ((if_pos c_29).trans (if_pos c_49))))))
              rw [hf] at hret
              dsimp only at hret
              exact hret _ _ _ _ hP hS dX6_seen_72
            · skip
              refine lv_bipush (v := (-5)) hx hb dX6_seen_52 (by decide) ?_
              have hf : (f_X6_seen sn ss sb sp strip beard part) = ((-5), sn, ss, sb, sp) := ((if_neg c_4).trans ((if_neg c_11).trans ((if_pos c_17).trans ((if_neg c_24).trans ((if_pos c_29).trans (if_neg c_49))))))
              rw [hf] at hret
              dsimp only at hret
              exact hret _ _ _ _ hP hS dX6_seen_54
          · skip
            refine lv_iload_n hx hb dX6_seen_32 rfl (lv_at hl 3 rfl) ?_
            refine lv_iconst (v := (-1)) hx hb dX6_seen_33 (by decide) ?_
            refine lv_icmp_eq (tgt := 40) hx hb dX6_seen_34 (by decide) (fun c_34 => ?_) (fun c_34 => ?_)
            · skip
              refine lv_aload_n hx hb dX6_seen_40 rfl (lv_at hl 0 rfl) ?_
              refine va_get (D := D) (ci := 6) (v := .ref (q 20)) (C := RX6) (T := TX6) (N := 9) hx hb hts inlX6 hown hK hP 0 rfl rfl 3 (by decide) (kw hts kin_2 3 rfl) (fun _ h9 => h9) rfl dX6_seen_41 ?_
              refine va_get (D := D) (ci := 3) (v := .int sn) (C := RX3) (T := TX3) (N := 4) hx hb hts inlX3 hown hK hP 20 rfl rfl 0 (by decide) (kw hts kin_31 9 rfl) (fun _ h9 => h9) rfl dX6_seen_44 ?_
              refine lv_bipush (v := 6) hx hb dX6_seen_47 (by decide) ?_
              refine lv_icmp_lt (tgt := 55) hx hb dX6_seen_49 (by decide) (fun c_49 => ?_) (fun c_49 => ?_)
              · skip
                refine lv_aload_n hx hb dX6_seen_55 rfl (lv_at hl 0 rfl) ?_
                refine va_get (D := D) (ci := 6) (v := .ref (q 20)) (C := RX6) (T := TX6) (N := 9) hx hb hts inlX6 hown hK hP 0 rfl rfl 3 (by decide) (kw hts kin_2 3 rfl) (fun _ h9 => h9) rfl dX6_seen_56 ?_
                refine lv_iload_n hx hb dX6_seen_59 rfl (lv_at hl 1 rfl) ?_
                refine lv_iload_n hx hb dX6_seen_60 rfl (lv_at hl 2 rfl) ?_
                refine lv_iload_n hx hb dX6_seen_61 rfl (lv_at hl 3 rfl) ?_
                refine kvv (As := [.int strip, .int beard, .int part]) (rest := []) (q0 := 0) (ci := 3) ⟨hx, hb, hml, hown, hts⟩ hP hK hD hS hA hE (k_X3_add l D cI cZ adK adV q sn ss sb sp strip beard part) (kcv hts kM_X3_add (kin_31 _ (List.mem_of_getElem? (i := 10) rfl)) ⟨rfl, rfl⟩ ⟨Nat.le_of_ble_eq_true rfl, Nat.le_of_ble_eq_true rfl⟩) kBl_G kOk_G (wC cI q lat und kpl len ncl spe sru sbe sen lets wrds nums tb tp tr knd sec brd rms std ((f_X3_add sn ss sb sp strip beard part).1) ((f_X3_add sn ss sb sp strip beard part).2.1) ((f_X3_add sn ss sb sp strip beard part).2.2.1) ((f_X3_add sn ss sb sp strip beard part).2.2.2) past kept) (cut_c_see cI q lat und kpl len ncl spe sru sbe sen lets wrds nums tb tp tr knd sec brd rms std sn ss sb sp past kept ((f_X3_add sn ss sb sp strip beard part).1) ((f_X3_add sn ss sb sp strip beard part).2.1) ((f_X3_add sn ss sb sp strip beard part).2.2.1) ((f_X3_add sn ss sb sp strip beard part).2.2.2)).1 (cut_c_see cI q lat und kpl len ncl spe sru sbe sen lets wrds nums tb tp tr knd sec brd rms std sn ss sb sp past kept ((f_X3_add sn ss sb sp strip beard part).1) ((f_X3_add sn ss sb sp strip beard part).2.1) ((f_X3_add sn ss sb sp strip beard part).2.2.1) ((f_X3_add sn ss sb sp strip beard part).2.2.2)).2 rfl rfl rfl rfl hl.1 rfl (Nat.le_of_ble_eq_true rfl) dX6_seen_62 (fun H locs hP hD hS => ?_)
                refine lv_aload_n hx hb dX6_seen_65 rfl (lv_at hl 0 rfl) ?_
                refine va_get (D := D) (ci := 6) (v := .ref (q 20)) (C := RX6) (T := TX6) (N := 9) hx hb hts inlX6 hown hK hP 0 rfl rfl 3 (by decide) (kw hts kin_2 3 rfl) (fun _ h9 => h9) rfl dX6_seen_66 ?_
                refine va_get (D := D) (ci := 3) (v := .int ((f_X3_add sn ss sb sp strip beard part).1)) (C := RX3) (T := TX3) (N := 4) hx hb hts inlX3 hown hK hP 20 rfl rfl 0 (by decide) (kw hts kin_31 9 rfl) (fun _ h9 => h9) rfl dX6_seen_69 ?_
                have hf : (f_X6_seen sn ss sb sp strip beard part) = (((f_X3_add sn ss sb sp strip beard part).1), (f_X3_add sn ss sb sp strip beard part).1, (f_X3_add sn ss sb sp strip beard part).2.1, (f_X3_add sn ss sb sp strip beard part).2.2.1, (f_X3_add sn ss sb sp strip beard part).2.2.2) := ((if_neg c_4).trans ((if_neg c_11).trans ((if_pos c_17).trans ((if_neg c_24).trans ((if_neg c_29).trans ((if_pos c_34).trans (if_pos c_49)))))))
                rw [hf] at hret
                dsimp only at hret
                exact hret _ _ _ _ hP hS dX6_seen_72
              · skip
                refine lv_bipush (v := (-5)) hx hb dX6_seen_52 (by decide) ?_
                have hf : (f_X6_seen sn ss sb sp strip beard part) = ((-5), sn, ss, sb, sp) := ((if_neg c_4).trans ((if_neg c_11).trans ((if_pos c_17).trans ((if_neg c_24).trans ((if_neg c_29).trans ((if_pos c_34).trans (if_neg c_49)))))))
                rw [hf] at hret
                dsimp only at hret
                exact hret _ _ _ _ hP hS dX6_seen_54
            · skip
              refine lv_bipush (v := (-3)) hx hb dX6_seen_37 (by decide) ?_
              have hf : (f_X6_seen sn ss sb sp strip beard part) = ((-3), sn, ss, sb, sp) := ((if_neg c_4).trans ((if_neg c_11).trans ((if_pos c_17).trans ((if_neg c_24).trans ((if_neg c_29).trans (if_neg c_34))))))
              rw [hf] at hret
              dsimp only at hret
              exact hret _ _ _ _ hP hS dX6_seen_39
      · skip
        refine lv_bipush (v := (-3)) hx hb dX6_seen_20 (by decide) ?_
        have hf : (f_X6_seen sn ss sb sp strip beard part) = ((-3), sn, ss, sb, sp) := ((if_neg c_4).trans ((if_neg c_11).trans (if_neg c_17)))
        rw [hf] at hret
        dsimp only at hret
        exact hret _ _ _ _ hP hS dX6_seen_22
  · skip
    refine lv_bipush (v := (-2)) hx hb dX6_seen_7 (by decide) ?_
    have hf : (f_X6_seen sn ss sb sp strip beard part) = ((-2), sn, ss, sb, sp) := (if_pos c_4)
    rw [hf] at hret
    dsimp only at hret
    exact hret _ _ _ _ hP hS dX6_seen_9
