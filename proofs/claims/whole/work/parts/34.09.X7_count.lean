def f_X7_count (w : Nat → Int32) (told : Nat → Int32) (undoes : Int32) (texted : Int32) (seen : Int32) (what : Int32) : Int32 := if what = 0 then (told 0) else (if what = 1 then (told 1) else (if what = 2 then (told 2) else (if what = 3 then (w 0) else (if what = 4 then (f_X7_beardsOfAll w told) else (if what = 5 then (f_X7_knownOfAll w) else (if what = 6 then seen else (if what = 7 then undoes else (if what = 8 then texted else (-3)))))))))
abbrev rm_X7_count : Room := { frames := 2, cells := 0, slots := 0, locals := 45 }
set_option maxRecDepth 100000 in
set_option maxHeartbeats 4000000 in
theorem k_X7_count (l : Launch) (D : va_G) (cI cZ : ClassId) (u : Nat → Nat) (w : Nat → Int32) (told : Nat → Int32) (read : Nat → Int32) (isK : Nat → Int32) (undoes : Int32) (text : Nat → Int32) (texted : Int32) (seen : Int32) (seS : Nat → Int32) (seB : Nat → Int32) (seP : Nat → Int32) (at_ : Int32) (start : Int32) (clauses : Int32) (number : Int32) (word : Int64) (what : Int32) (hT1 : kb (told 1) 0 7) : CI l D (kTy cI cZ) kT yX7_count (.code yX7_count cX7_count 2 (some .int) :: wsL_law) rm_X7_count [.ref (u 0), .int what] (wM cI cZ u w told read isK undoes text texted seen seS seB seP at_ start clauses number word) (wM cI cZ u w told read isK undoes text texted seen seS seB seP at_ start clauses number word) (f_X7_count w told undoes texted seen what) := by
  refine CI.of (cc := cX7_count) (maxL := 2) (ty := .int) (by decide) rfl (Nat.le_of_ble_eq_true rfl) rfl ?_
  intro p e s m args below meth c A Q ls hx hb hml hts0 hown hA hP hK hD hE hl hret
  have hts : ∀ w ∈ wsL_law, w.before args s = true := fun w h => hts0 w (List.mem_cons_of_mem _ h)
  clear hts0
  have hown : s.vm.findClass RX7 = some m.cls := hown
  have hl : lv_has ls 2 [(0, .ref (u 0)), (1, .int what)] := hl
  have hS : va_S A s.heap s.heap [] := va_S.rf
  revert hP hS
  suffices hgo : ∀ (H : Heap) (locs : List Loc), va_P D vwCl (wM cI cZ u w told read isK undoes text texted seen seS seB seP at_ start clauses number word) H → va_S A s.heap H locs → W p l e rm_X7_count s m args below meth c H locs 0 0 Q (F0 m 0 ls []) from fun a b => hgo _ _ a b
  intro H locs hP hS
  refine lv_iload_n hx hb dX7_count_0 rfl (lv_at hl 1 rfl) ?_
  by_cases c_1_0 : what = 0
  · skip
    refine lv_tableIn (off := 51) (tgt := 52) hx hb dX7_count_1 (by rw [c_1_0]; decide) (by rw [c_1_0]; decide) (by rw [c_1_0]; rfl) (by decide) ?_
    refine lv_aload_n hx hb dX7_count_52 rfl (lv_at hl 0 rfl) ?_
    refine va_get (D := D) (ci := 7) (v := .ref (u 2)) (C := RX7) (T := TX7) (N := 16) hx hb hts inlX7 hown hK hP 0 rfl rfl 1 (by decide) (kw hts kin_4 23 rfl) (fun _ h9 => h9) rfl dX7_count_53 ?_
    refine lv_iconst (v := 0) hx hb dX7_count_56 (by decide) ?_
    refine va_iald (cA := cI) (n := 59) (f := told) hx hb hK hP 2 0 rfl rfl ((kb.lit 0).in (by decide) (by decide)) dX7_count_57 ?_
    show W p l e rm_X7_count s m args below meth c H locs 0 0 Q (F0 m 58 ls [.int (told 0)])
    have hf : (f_X7_count w told undoes texted seen what) = (told 0) := (if_pos c_1_0)
    rw [hf] at hret
    exact hret _ _ _ _ hP hS dX7_count_58
  · skip
    by_cases c_1_1 : what = 1
    · skip
      refine lv_tableIn (off := 58) (tgt := 59) hx hb dX7_count_1 (by rw [c_1_1]; decide) (by rw [c_1_1]; decide) (by rw [c_1_1]; rfl) (by decide) ?_
      refine lv_aload_n hx hb dX7_count_59 rfl (lv_at hl 0 rfl) ?_
      refine va_get (D := D) (ci := 7) (v := .ref (u 2)) (C := RX7) (T := TX7) (N := 16) hx hb hts inlX7 hown hK hP 0 rfl rfl 1 (by decide) (kw hts kin_4 23 rfl) (fun _ h9 => h9) rfl dX7_count_60 ?_
      refine lv_iconst (v := 1) hx hb dX7_count_63 (by decide) ?_
      refine va_iald (cA := cI) (n := 59) (f := told) hx hb hK hP 2 0 rfl rfl ((kb.lit 1).in (by decide) (by decide)) dX7_count_64 ?_
      show W p l e rm_X7_count s m args below meth c H locs 0 0 Q (F0 m 65 ls [.int (told 1)])
      have hf : (f_X7_count w told undoes texted seen what) = (told 1) := ((if_neg c_1_0).trans (if_pos c_1_1))
      rw [hf] at hret
      exact hret _ _ _ _ hP hS dX7_count_65
    · skip
      by_cases c_1_2 : what = 2
      · skip
        refine lv_tableIn (off := 65) (tgt := 66) hx hb dX7_count_1 (by rw [c_1_2]; decide) (by rw [c_1_2]; decide) (by rw [c_1_2]; rfl) (by decide) ?_
        refine lv_aload_n hx hb dX7_count_66 rfl (lv_at hl 0 rfl) ?_
        refine va_get (D := D) (ci := 7) (v := .ref (u 2)) (C := RX7) (T := TX7) (N := 16) hx hb hts inlX7 hown hK hP 0 rfl rfl 1 (by decide) (kw hts kin_4 23 rfl) (fun _ h9 => h9) rfl dX7_count_67 ?_
        refine lv_iconst (v := 2) hx hb dX7_count_70 (by decide) ?_
        refine va_iald (cA := cI) (n := 59) (f := told) hx hb hK hP 2 0 rfl rfl ((kb.lit 2).in (by decide) (by decide)) dX7_count_71 ?_
        show W p l e rm_X7_count s m args below meth c H locs 0 0 Q (F0 m 72 ls [.int (told 2)])
        have hf : (f_X7_count w told undoes texted seen what) = (told 2) := ((if_neg c_1_0).trans ((if_neg c_1_1).trans (if_pos c_1_2)))
        rw [hf] at hret
        exact hret _ _ _ _ hP hS dX7_count_72
      · skip
        by_cases c_1_3 : what = 3
        · skip
          refine lv_tableIn (off := 72) (tgt := 73) hx hb dX7_count_1 (by rw [c_1_3]; decide) (by rw [c_1_3]; decide) (by rw [c_1_3]; rfl) (by decide) ?_
          refine lv_aload_n hx hb dX7_count_73 rfl (lv_at hl 0 rfl) ?_
          refine va_get (D := D) (ci := 7) (v := .ref (u 1)) (C := RX7) (T := TX7) (N := 16) hx hb hts inlX7 hown hK hP 0 rfl rfl 0 (by decide) (kw hts kin_4 22 rfl) (fun _ h9 => h9) rfl dX7_count_74 ?_
          refine lv_iconst (v := 0) hx hb dX7_count_77 (by decide) ?_
          refine va_iald (cA := cI) (n := 1020) (f := w) hx hb hK hP 1 0 rfl rfl ((kb.lit 0).in (by decide) (by decide)) dX7_count_78 ?_
          show W p l e rm_X7_count s m args below meth c H locs 0 0 Q (F0 m 79 ls [.int (w 0)])
          have hf : (f_X7_count w told undoes texted seen what) = (w 0) := ((if_neg c_1_0).trans ((if_neg c_1_1).trans ((if_neg c_1_2).trans (if_pos c_1_3))))
          rw [hf] at hret
          exact hret _ _ _ _ hP hS dX7_count_79
        · skip
          by_cases c_1_4 : what = 4
          · skip
            refine lv_tableIn (off := 79) (tgt := 80) hx hb dX7_count_1 (by rw [c_1_4]; decide) (by rw [c_1_4]; decide) (by rw [c_1_4]; rfl) (by decide) ?_
            refine lv_aload_n hx hb dX7_count_80 rfl (lv_at hl 0 rfl) ?_
            refine kvi (As := []) (rest := []) (q0 := 0) (ci := 7) ⟨hx, hb, hml, hown, hts⟩ hP hK hD hS hA hE (k_X7_beardsOfAll l D cI cZ  u w told read isK undoes text texted seen seS seB seP at_ start clauses number word (hT1.wide (by decide) (by decide))) (kcv hts kM_X7_beardsOfAll (kin_34 _ (List.mem_of_getElem? (i := 7) rfl)) ⟨rfl, rfl⟩ ⟨Nat.le_of_ble_eq_true rfl, Nat.le_of_ble_eq_true rfl⟩) kBl_T kOk_T (wM cI cZ u w told read isK undoes text texted seen seS seB seP at_ start clauses number word) (cut_m_m cI cZ u w told read isK undoes text texted seen seS seB seP at_ start clauses number word w told read isK undoes text texted seen seS seB seP at_ start clauses number word).1 (cut_m_m cI cZ u w told read isK undoes text texted seen seS seB seP at_ start clauses number word w told read isK undoes text texted seen seS seB seP at_ start clauses number word).2 rfl rfl rfl rfl hl.1 rfl (Nat.le_of_ble_eq_true rfl) dX7_count_81 (fun H locs hP hD hS => ?_)
            have hf : (f_X7_count w told undoes texted seen what) = (f_X7_beardsOfAll w told) := ((if_neg c_1_0).trans ((if_neg c_1_1).trans ((if_neg c_1_2).trans ((if_neg c_1_3).trans (if_pos c_1_4)))))
            rw [hf] at hret
            exact hret _ _ _ _ hP hS dX7_count_84
          · skip
            by_cases c_1_5 : what = 5
            · skip
              refine lv_tableIn (off := 84) (tgt := 85) hx hb dX7_count_1 (by rw [c_1_5]; decide) (by rw [c_1_5]; decide) (by rw [c_1_5]; rfl) (by decide) ?_
              refine lv_aload_n hx hb dX7_count_85 rfl (lv_at hl 0 rfl) ?_
              refine kvi (As := []) (rest := []) (q0 := 0) (ci := 7) ⟨hx, hb, hml, hown, hts⟩ hP hK hD hS hA hE (k_X7_knownOfAll l D cI cZ  u w told read isK undoes text texted seen seS seB seP at_ start clauses number word) (kcv hts kM_X7_knownOfAll (kin_34 _ (List.mem_of_getElem? (i := 11) rfl)) ⟨rfl, rfl⟩ ⟨Nat.le_of_ble_eq_true rfl, Nat.le_of_ble_eq_true rfl⟩) kBl_T kOk_T (wM cI cZ u w told read isK undoes text texted seen seS seB seP at_ start clauses number word) (cut_m_m cI cZ u w told read isK undoes text texted seen seS seB seP at_ start clauses number word w told read isK undoes text texted seen seS seB seP at_ start clauses number word).1 (cut_m_m cI cZ u w told read isK undoes text texted seen seS seB seP at_ start clauses number word w told read isK undoes text texted seen seS seB seP at_ start clauses number word).2 rfl rfl rfl rfl hl.1 rfl (Nat.le_of_ble_eq_true rfl) dX7_count_86 (fun H locs hP hD hS => ?_)
              have hf : (f_X7_count w told undoes texted seen what) = (f_X7_knownOfAll w) := ((if_neg c_1_0).trans ((if_neg c_1_1).trans ((if_neg c_1_2).trans ((if_neg c_1_3).trans ((if_neg c_1_4).trans (if_pos c_1_5))))))
              rw [hf] at hret
              exact hret _ _ _ _ hP hS dX7_count_89
            · skip
              by_cases c_1_6 : what = 6
              · skip
                refine lv_tableIn (off := 89) (tgt := 90) hx hb dX7_count_1 (by rw [c_1_6]; decide) (by rw [c_1_6]; decide) (by rw [c_1_6]; rfl) (by decide) ?_
                refine lv_aload_n hx hb dX7_count_90 rfl (lv_at hl 0 rfl) ?_
                refine va_get (D := D) (ci := 7) (v := .int seen) (C := RX7) (T := TX7) (N := 16) hx hb hts inlX7 hown hK hP 0 rfl rfl 7 (by decide) (kw hts kin_16 19 rfl) (fun _ h9 => h9) rfl dX7_count_91 ?_
                have hf : (f_X7_count w told undoes texted seen what) = seen := ((if_neg c_1_0).trans ((if_neg c_1_1).trans ((if_neg c_1_2).trans ((if_neg c_1_3).trans ((if_neg c_1_4).trans ((if_neg c_1_5).trans (if_pos c_1_6)))))))
                rw [hf] at hret
                exact hret _ _ _ _ hP hS dX7_count_94
              · skip
                by_cases c_1_7 : what = 7
                · skip
                  refine lv_tableIn (off := 94) (tgt := 95) hx hb dX7_count_1 (by rw [c_1_7]; decide) (by rw [c_1_7]; decide) (by rw [c_1_7]; rfl) (by decide) ?_
                  refine lv_aload_n hx hb dX7_count_95 rfl (lv_at hl 0 rfl) ?_
                  refine va_get (D := D) (ci := 7) (v := .int undoes) (C := RX7) (T := TX7) (N := 16) hx hb hts inlX7 hown hK hP 0 rfl rfl 4 (by decide) (kw hts kin_16 20 rfl) (fun _ h9 => h9) rfl dX7_count_96 ?_
                  have hf : (f_X7_count w told undoes texted seen what) = undoes := ((if_neg c_1_0).trans ((if_neg c_1_1).trans ((if_neg c_1_2).trans ((if_neg c_1_3).trans ((if_neg c_1_4).trans ((if_neg c_1_5).trans ((if_neg c_1_6).trans (if_pos c_1_7))))))))
                  rw [hf] at hret
                  exact hret _ _ _ _ hP hS dX7_count_99
                · skip
                  by_cases c_1_8 : what = 8
                  · skip
                    refine lv_tableIn (off := 99) (tgt := 100) hx hb dX7_count_1 (by rw [c_1_8]; decide) (by rw [c_1_8]; decide) (by rw [c_1_8]; rfl) (by decide) ?_
                    refine lv_aload_n hx hb dX7_count_100 rfl (lv_at hl 0 rfl) ?_
                    refine va_get (D := D) (ci := 7) (v := .int texted) (C := RX7) (T := TX7) (N := 16) hx hb hts inlX7 hown hK hP 0 rfl rfl 6 (by decide) (kw hts kin_6 5 rfl) (fun _ h9 => h9) rfl dX7_count_101 ?_
                    have hf : (f_X7_count w told undoes texted seen what) = texted := ((if_neg c_1_0).trans ((if_neg c_1_1).trans ((if_neg c_1_2).trans ((if_neg c_1_3).trans ((if_neg c_1_4).trans ((if_neg c_1_5).trans ((if_neg c_1_6).trans ((if_neg c_1_7).trans (if_pos c_1_8)))))))))
                    rw [hf] at hret
                    exact hret _ _ _ _ hP hS dX7_count_104
                  · skip
                    have htab : what.toInt < 0 ∨ 8 < what.toInt := by
                      have a0 : what.toInt ≠ 0 := kneI c_1_0
                      have a1 : what.toInt ≠ 1 := kneI c_1_1
                      have a2 : what.toInt ≠ 2 := kneI c_1_2
                      have a3 : what.toInt ≠ 3 := kneI c_1_3
                      have a4 : what.toInt ≠ 4 := kneI c_1_4
                      have a5 : what.toInt ≠ 5 := kneI c_1_5
                      have a6 : what.toInt ≠ 6 := kneI c_1_6
                      have a7 : what.toInt ≠ 7 := kneI c_1_7
                      have a8 : what.toInt ≠ 8 := kneI c_1_8
                      omega
                    refine lv_tableOut (tgt := 105) hx hb dX7_count_1 htab (by decide) ?_
                    refine lv_bipush (v := (-3)) hx hb dX7_count_105 (by decide) ?_
                    have hf : (f_X7_count w told undoes texted seen what) = (-3) := ((if_neg c_1_0).trans ((if_neg c_1_1).trans ((if_neg c_1_2).trans ((if_neg c_1_3).trans ((if_neg c_1_4).trans ((if_neg c_1_5).trans ((if_neg c_1_6).trans ((if_neg c_1_7).trans (if_neg c_1_8)))))))))
                    rw [hf] at hret
                    exact hret _ _ _ _ hP hS dX7_count_107
