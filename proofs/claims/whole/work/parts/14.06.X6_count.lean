def f_X6_count (und : Int32) (len : Int32) (tb : Int32) (tp : Int32) (tr : Int32) (std : Nat → Int32) (sn : Int32) (what : Int32) : Int32 := if what = 0 then tb else (if what = 1 then tp else (if what = 2 then tr else (if what = 3 then (f_X4_date std) else (if what = 4 then (f_X6_allBeards tp std) else (if what = 5 then (f_X6_allStripsKnown tb tp std) else (if what = 6 then sn else (if what = 7 then und else (if what = 8 then len else (-3)))))))))
abbrev rm_X6_count : Room := { frames := 4, cells := 0, slots := 0, locals := 88 }
set_option maxRecDepth 100000 in
set_option maxHeartbeats 4000000 in
theorem k_X6_count (l : Launch) (D : va_G) (cI cZ : ClassId) (adK adV : Nat → Nat) (q : Nat → Nat) (lat : Int32) (und : Int32) (kpl : Int32) (len : Int32) (ncl : Int32) (spe : Int32) (sru : Int32) (sbe : Int32) (sen : Int32) (lets : Nat → Int32) (wrds : Nat → Int32) (nums : Nat → Int32) (tb : Int32) (tp : Int32) (tr : Int32) (knd : Nat → Int32) (sec : Nat → Int32) (brd : Nat → Int32) (rms : Nat → Int32) (std : Nat → Int32) (sn : Int32) (ss : Nat → Int32) (sb : Nat → Int32) (sp : Nat → Int32) (past : Nat → Int32) (kept : Nat → Int32) (what : Int32) : CI l D (kTy cI cZ) (kG adK adV) yX6_count (.code yX6_count cX6_count 2 (some .int) :: wsL_law) rm_X6_count [.ref (q 0), .int what] (wC cI q lat und kpl len ncl spe sru sbe sen lets wrds nums tb tp tr knd sec brd rms std sn ss sb sp past kept) (wC cI q lat und kpl len ncl spe sru sbe sen lets wrds nums tb tp tr knd sec brd rms std sn ss sb sp past kept) (f_X6_count und len tb tp tr std sn what) := by
  refine CI.of (cc := cX6_count) (maxL := 2) (ty := .int) (by decide) rfl (Nat.le_of_ble_eq_true rfl) rfl ?_
  intro p e s m args below meth c A Q ls hx hb hml hts0 hown hA hP hK hD hE hl hret
  have hts : ∀ w ∈ wsL_law, w.before args s = true := fun w h => hts0 w (List.mem_cons_of_mem _ h)
  clear hts0
  have hown : s.vm.findClass RX6 = some m.cls := hown
  have hl : lv_has ls 2 [(0, .ref (q 0)), (1, .int what)] := hl
  have hS : va_S A s.heap s.heap [] := va_S.rf
  revert hP hS
  suffices hgo : ∀ (H : Heap) (locs : List Loc), va_P D vwCl (wC cI q lat und kpl len ncl spe sru sbe sen lets wrds nums tb tp tr knd sec brd rms std sn ss sb sp past kept) H → va_S A s.heap H locs → W p l e rm_X6_count s m args below meth c H locs 0 0 Q (F0 m 0 ls []) from fun a b => hgo _ _ a b
  intro H locs hP hS
  refine lv_iload_n hx hb dX6_count_0 rfl (lv_at hl 1 rfl) ?_
  by_cases c_1_0 : what = 0
  · skip
    refine lv_tableIn (off := 51) (tgt := 52) hx hb dX6_count_1 (by rw [c_1_0]; decide) (by rw [c_1_0]; decide) (by rw [c_1_0]; rfl) (by decide) ?_
    refine lv_aload_n hx hb dX6_count_52 rfl (lv_at hl 0 rfl) ?_
    refine va_get (D := D) (ci := 6) (v := .ref (q 8)) (C := RX6) (T := TX6) (N := 9) hx hb hts inlX6 hown hK hP 0 rfl rfl 1 (by decide) (kw hts kin_1 19 rfl) (fun _ h9 => h9) rfl dX6_count_53 ?_
    refine va_get (D := D) (ci := 5) (v := .int tb) (C := RX5) (T := TX5) (N := 7) hx hb hts inlX5 hown hK hP 8 rfl rfl 0 (by decide) (kw hts kin_20 14 rfl) (fun _ h9 => h9) rfl dX6_count_56 ?_
    have hf : (f_X6_count und len tb tp tr std sn what) = tb := (if_pos c_1_0)
    rw [hf] at hret
    exact hret _ _ _ _ hP hS dX6_count_59
  · skip
    by_cases c_1_1 : what = 1
    · skip
      refine lv_tableIn (off := 59) (tgt := 60) hx hb dX6_count_1 (by rw [c_1_1]; decide) (by rw [c_1_1]; decide) (by rw [c_1_1]; rfl) (by decide) ?_
      refine lv_aload_n hx hb dX6_count_60 rfl (lv_at hl 0 rfl) ?_
      refine va_get (D := D) (ci := 6) (v := .ref (q 8)) (C := RX6) (T := TX6) (N := 9) hx hb hts inlX6 hown hK hP 0 rfl rfl 1 (by decide) (kw hts kin_1 19 rfl) (fun _ h9 => h9) rfl dX6_count_61 ?_
      refine va_get (D := D) (ci := 5) (v := .int tp) (C := RX5) (T := TX5) (N := 7) hx hb hts inlX5 hown hK hP 8 rfl rfl 1 (by decide) (kw hts kin_7 1 rfl) (fun _ h9 => h9) rfl dX6_count_64 ?_
      have hf : (f_X6_count und len tb tp tr std sn what) = tp := ((if_neg c_1_0).trans (if_pos c_1_1))
      rw [hf] at hret
      exact hret _ _ _ _ hP hS dX6_count_67
    · skip
      by_cases c_1_2 : what = 2
      · skip
        refine lv_tableIn (off := 67) (tgt := 68) hx hb dX6_count_1 (by rw [c_1_2]; decide) (by rw [c_1_2]; decide) (by rw [c_1_2]; rfl) (by decide) ?_
        refine lv_aload_n hx hb dX6_count_68 rfl (lv_at hl 0 rfl) ?_
        refine va_get (D := D) (ci := 6) (v := .ref (q 8)) (C := RX6) (T := TX6) (N := 9) hx hb hts inlX6 hown hK hP 0 rfl rfl 1 (by decide) (kw hts kin_1 19 rfl) (fun _ h9 => h9) rfl dX6_count_69 ?_
        refine va_get (D := D) (ci := 5) (v := .int tr) (C := RX5) (T := TX5) (N := 7) hx hb hts inlX5 hown hK hP 8 rfl rfl 2 (by decide) (kw hts kin_7 2 rfl) (fun _ h9 => h9) rfl dX6_count_72 ?_
        have hf : (f_X6_count und len tb tp tr std sn what) = tr := ((if_neg c_1_0).trans ((if_neg c_1_1).trans (if_pos c_1_2)))
        rw [hf] at hret
        exact hret _ _ _ _ hP hS dX6_count_75
      · skip
        by_cases c_1_3 : what = 3
        · skip
          refine lv_tableIn (off := 75) (tgt := 76) hx hb dX6_count_1 (by rw [c_1_3]; decide) (by rw [c_1_3]; decide) (by rw [c_1_3]; rfl) (by decide) ?_
          refine lv_aload_n hx hb dX6_count_76 rfl (lv_at hl 0 rfl) ?_
          refine va_get (D := D) (ci := 6) (v := .ref (q 17)) (C := RX6) (T := TX6) (N := 9) hx hb hts inlX6 hown hK hP 0 rfl rfl 2 (by decide) (kw hts kin_1 23 rfl) (fun _ h9 => h9) rfl dX6_count_77 ?_
          refine kvi (As := []) (rest := []) (q0 := 0) (ci := 4) ⟨hx, hb, hml, hown, hts⟩ hP hK hD hS hA hE (k_X4_date l D cI cZ adK adV q std) (kcv hts kM_X4_date (kin_25 _ (List.mem_of_getElem? (i := 11) rfl)) ⟨rfl, rfl⟩ ⟨Nat.le_of_ble_eq_true rfl, Nat.le_of_ble_eq_true rfl⟩) kBl_G kOk_G (wC cI q lat und kpl len ncl spe sru sbe sen lets wrds nums tb tp tr knd sec brd rms std sn ss sb sp past kept) (cut_c_std cI q lat und kpl len ncl spe sru sbe sen lets wrds nums tb tp tr knd sec brd rms std sn ss sb sp past kept std).1 (cut_c_std cI q lat und kpl len ncl spe sru sbe sen lets wrds nums tb tp tr knd sec brd rms std sn ss sb sp past kept std).2 rfl rfl rfl rfl hl.1 rfl (Nat.le_of_ble_eq_true rfl) dX6_count_80 (fun H locs hP hD hS => ?_)
          have hf : (f_X6_count und len tb tp tr std sn what) = (f_X4_date std) := ((if_neg c_1_0).trans ((if_neg c_1_1).trans ((if_neg c_1_2).trans (if_pos c_1_3))))
          rw [hf] at hret
          exact hret _ _ _ _ hP hS dX6_count_83
        · skip
          by_cases c_1_4 : what = 4
          · skip
            refine lv_tableIn (off := 83) (tgt := 84) hx hb dX6_count_1 (by rw [c_1_4]; decide) (by rw [c_1_4]; decide) (by rw [c_1_4]; rfl) (by decide) ?_
            refine lv_aload_n hx hb dX6_count_84 rfl (lv_at hl 0 rfl) ?_
            refine kvi (As := []) (rest := []) (q0 := 0) (ci := 6) ⟨hx, hb, hml, hown, hts⟩ hP hK hD hS hA hE (k_X6_allBeards l D cI cZ adK adV q lat und kpl len ncl spe sru sbe sen lets wrds nums tb tp tr knd sec brd rms std sn ss sb sp past kept) (kcv hts kM_X6_allBeards (kin_33 _ (List.mem_of_getElem? (i := 19) rfl)) ⟨rfl, rfl⟩ ⟨Nat.le_of_ble_eq_true rfl, Nat.le_of_ble_eq_true rfl⟩) kBl_G kOk_G (wC cI q lat und kpl len ncl spe sru sbe sen lets wrds nums tb tp tr knd sec brd rms std sn ss sb sp past kept) (cut_c_c cI q lat und kpl len ncl spe sru sbe sen lets wrds nums tb tp tr knd sec brd rms std sn ss sb sp past kept lat und kpl len ncl spe sru sbe sen lets wrds nums tb tp tr knd sec brd rms std sn ss sb sp past kept).1 (cut_c_c cI q lat und kpl len ncl spe sru sbe sen lets wrds nums tb tp tr knd sec brd rms std sn ss sb sp past kept lat und kpl len ncl spe sru sbe sen lets wrds nums tb tp tr knd sec brd rms std sn ss sb sp past kept).2 rfl rfl rfl rfl hl.1 rfl (Nat.le_of_ble_eq_true rfl) dX6_count_85 (fun H locs hP hD hS => ?_)
            have hf : (f_X6_count und len tb tp tr std sn what) = (f_X6_allBeards tp std) := ((if_neg c_1_0).trans ((if_neg c_1_1).trans ((if_neg c_1_2).trans ((if_neg c_1_3).trans (if_pos c_1_4)))))
            rw [hf] at hret
            exact hret _ _ _ _ hP hS dX6_count_88
          · skip
            by_cases c_1_5 : what = 5
            · skip
              refine lv_tableIn (off := 88) (tgt := 89) hx hb dX6_count_1 (by rw [c_1_5]; decide) (by rw [c_1_5]; decide) (by rw [c_1_5]; rfl) (by decide) ?_
              refine lv_aload_n hx hb dX6_count_89 rfl (lv_at hl 0 rfl) ?_
              refine kvi (As := []) (rest := []) (q0 := 0) (ci := 6) ⟨hx, hb, hml, hown, hts⟩ hP hK hD hS hA hE (k_X6_allStripsKnown l D cI cZ adK adV q lat und kpl len ncl spe sru sbe sen lets wrds nums tb tp tr knd sec brd rms std sn ss sb sp past kept) (kcv hts kM_X6_allStripsKnown (kin_33 _ (List.mem_of_getElem? (i := 23) rfl)) ⟨rfl, rfl⟩ ⟨Nat.le_of_ble_eq_true rfl, Nat.le_of_ble_eq_true rfl⟩) kBl_G kOk_G (wC cI q lat und kpl len ncl spe sru sbe sen lets wrds nums tb tp tr knd sec brd rms std sn ss sb sp past kept) (cut_c_c cI q lat und kpl len ncl spe sru sbe sen lets wrds nums tb tp tr knd sec brd rms std sn ss sb sp past kept lat und kpl len ncl spe sru sbe sen lets wrds nums tb tp tr knd sec brd rms std sn ss sb sp past kept).1 (cut_c_c cI q lat und kpl len ncl spe sru sbe sen lets wrds nums tb tp tr knd sec brd rms std sn ss sb sp past kept lat und kpl len ncl spe sru sbe sen lets wrds nums tb tp tr knd sec brd rms std sn ss sb sp past kept).2 rfl rfl rfl rfl hl.1 rfl (Nat.le_of_ble_eq_true rfl) dX6_count_90 (fun H locs hP hD hS => ?_)
              have hf : (f_X6_count und len tb tp tr std sn what) = (f_X6_allStripsKnown tb tp std) := ((if_neg c_1_0).trans ((if_neg c_1_1).trans ((if_neg c_1_2).trans ((if_neg c_1_3).trans ((if_neg c_1_4).trans (if_pos c_1_5))))))
              rw [hf] at hret
              exact hret _ _ _ _ hP hS dX6_count_93
            · skip
              by_cases c_1_6 : what = 6
              · skip
                refine lv_tableIn (off := 93) (tgt := 94) hx hb dX6_count_1 (by rw [c_1_6]; decide) (by rw [c_1_6]; decide) (by rw [c_1_6]; rfl) (by decide) ?_
                refine lv_aload_n hx hb dX6_count_94 rfl (lv_at hl 0 rfl) ?_
                refine va_get (D := D) (ci := 6) (v := .ref (q 20)) (C := RX6) (T := TX6) (N := 9) hx hb hts inlX6 hown hK hP 0 rfl rfl 3 (by decide) (kw hts kin_2 3 rfl) (fun _ h9 => h9) rfl dX6_count_95 ?_
                refine va_get (D := D) (ci := 3) (v := .int sn) (C := RX3) (T := TX3) (N := 4) hx hb hts inlX3 hown hK hP 20 rfl rfl 0 (by decide) (kw hts kin_31 9 rfl) (fun _ h9 => h9) rfl dX6_count_98 ?_
                have hf : (f_X6_count und len tb tp tr std sn what) = sn := ((if_neg c_1_0).trans ((if_neg c_1_1).trans ((if_neg c_1_2).trans ((if_neg c_1_3).trans ((if_neg c_1_4).trans ((if_neg c_1_5).trans (if_pos c_1_6)))))))
                rw [hf] at hret
                exact hret _ _ _ _ hP hS dX6_count_101
              · skip
                by_cases c_1_7 : what = 7
                · skip
                  refine lv_tableIn (off := 101) (tgt := 102) hx hb dX6_count_1 (by rw [c_1_7]; decide) (by rw [c_1_7]; decide) (by rw [c_1_7]; rfl) (by decide) ?_
                  refine lv_aload_n hx hb dX6_count_102 rfl (lv_at hl 0 rfl) ?_
                  refine va_get (D := D) (ci := 6) (v := .int und) (C := RX6) (T := TX6) (N := 9) hx hb hts inlX6 hown hK hP 0 rfl rfl 7 (by decide) (kw hts kin_2 10 rfl) (fun _ h9 => h9) rfl dX6_count_103 ?_
                  have hf : (f_X6_count und len tb tp tr std sn what) = und := ((if_neg c_1_0).trans ((if_neg c_1_1).trans ((if_neg c_1_2).trans ((if_neg c_1_3).trans ((if_neg c_1_4).trans ((if_neg c_1_5).trans ((if_neg c_1_6).trans (if_pos c_1_7))))))))
                  rw [hf] at hret
                  exact hret _ _ _ _ hP hS dX6_count_106
                · skip
                  by_cases c_1_8 : what = 8
                  · skip
                    refine lv_tableIn (off := 106) (tgt := 107) hx hb dX6_count_1 (by rw [c_1_8]; decide) (by rw [c_1_8]; decide) (by rw [c_1_8]; rfl) (by decide) ?_
                    refine lv_aload_n hx hb dX6_count_107 rfl (lv_at hl 0 rfl) ?_
                    refine va_get (D := D) (ci := 6) (v := .ref (q 1)) (C := RX6) (T := TX6) (N := 9) hx hb hts inlX6 hown hK hP 0 rfl rfl 0 (by decide) (kw hts kin_1 15 rfl) (fun _ h9 => h9) rfl dX6_count_108 ?_
                    refine va_get (D := D) (ci := 1) (v := .int len) (C := RX1) (T := TX1) (N := 9) hx hb hts inlX1 hown hK hP 1 rfl rfl 3 (by decide) (kw hts kin_5 11 rfl) (fun _ h9 => h9) rfl dX6_count_111 ?_
                    have hf : (f_X6_count und len tb tp tr std sn what) = len := ((if_neg c_1_0).trans ((if_neg c_1_1).trans ((if_neg c_1_2).trans ((if_neg c_1_3).trans ((if_neg c_1_4).trans ((if_neg c_1_5).trans ((if_neg c_1_6).trans ((if_neg c_1_7).trans (if_pos c_1_8)))))))))
                    rw [hf] at hret
                    exact hret _ _ _ _ hP hS dX6_count_114
                  · skip
                    have htab : what.toInt < 0 ∨ 8 < what.toInt := by
                      have a0 : what.toInt ≠ 0 := kneI c_1_0
                      have a1 : what.toInt ≠ 1 := kneI c_1_1
                      have a2 : what.toInt ≠ 2 := kneI c_1_2
                      have a3 : what.toInt ≠ 3 := kneI c_1_3
                      have a4 : what.toInt ≠ 4 := kneI c_1_4
                      have a5 : what.toInt ≠ 5 := kneI c_1_5
                      have a6 : what.toInt ≠ 6 := kneI c_1_6
                      have a7 : what.toInt ≠ 7 := kneI c_1_7
                      have a8 : what.toInt ≠ 8 := kneI c_1_8
                      omega
                    refine lv_tableOut (tgt := 115) hx hb dX6_count_1 htab (by decide) ?_
                    refine lv_bipush (v := (-3)) hx hb dX6_count_115 (by decide) ?_
                    have hf : (f_X6_count und len tb tp tr std sn what) = (-3) := ((if_neg c_1_0).trans ((if_neg c_1_1).trans ((if_neg c_1_2).trans ((if_neg c_1_3).trans ((if_neg c_1_4).trans ((if_neg c_1_5).trans ((if_neg c_1_6).trans ((if_neg c_1_7).trans (if_neg c_1_8)))))))))
                    rw [hf] at hret
                    exact hret _ _ _ _ hP hS dX6_count_117
