def v_X6_round_62_0 (tb : Int32) (i_ : Int32) (j_ : Int32) (i : Nat) (x38_4 : Int32) : Int32 := if (((nI i) + i_) - ((((nI i) + i_) / (if 1 < tb then tb else 1)) * (if 1 < tb then tb else 1))) = j_ then (x38_4 ||| (1 <<< ((nI i) &&& 31))) else x38_4
def nx_X6_round_38 (tb : Int32) (i_ : Int32) (j_ : Int32) (i : Nat) (x38_4 : Int32) : Int32 := (v_X6_round_62_0 tb i_ j_ i x38_4)
def x_X6_round_38 (tb : Int32) (i_ : Int32) (j_ : Int32) : Int32 := lp (fun iz z => nx_X6_round_38 tb i_ j_ iz z) 0 6
def f_X6_round (tb : Int32) (tp : Int32) (tr : Int32) (knd : Nat → Int32) (sec : Nat → Int32) (rms : Nat → Int32) (std : Nat → Int32) (person : Int32) (i_ : Int32) (j_ : Int32) : Int32 := if (f_X6_isPerson tp person) = 0 then (-2) else (if (f_X6_isBarber tb j_) = 0 then (-2) else (if i_ < 0 then (-3) else (if i_ < 6 then (f_X6_fittingBehind tr rms std j_ person ((x_X6_round_38 tb i_ j_) &&& (f_X6_stripsTelling knd sec std person)) (f_X6_partsTold knd sec std person)) else (-3))))
abbrev rm_X6_round : Room := { frames := 5, cells := 0, slots := 0, locals := 110 }
set_option maxRecDepth 100000 in
set_option maxHeartbeats 4000000 in
theorem k_X6_round (l : Launch) (D : va_G) (cI cZ : ClassId) (adK adV : Nat → Nat) (q : Nat → Nat) (lat : Int32) (und : Int32) (kpl : Int32) (len : Int32) (ncl : Int32) (spe : Int32) (sru : Int32) (sbe : Int32) (sen : Int32) (lets : Nat → Int32) (wrds : Nat → Int32) (nums : Nat → Int32) (tb : Int32) (tp : Int32) (tr : Int32) (knd : Nat → Int32) (sec : Nat → Int32) (brd : Nat → Int32) (rms : Nat → Int32) (std : Nat → Int32) (sn : Int32) (ss : Nat → Int32) (sb : Nat → Int32) (sp : Nat → Int32) (past : Nat → Int32) (kept : Nat → Int32) (person : Int32) (i_ : Int32) (j_ : Int32) : CI l D (kTy cI cZ) (kG adK adV) yX6_round (.code yX6_round cX6_round 6 (some .int) :: wsL_law) rm_X6_round [.ref (q 0), .int person, .int i_, .int j_] (wC cI q lat und kpl len ncl spe sru sbe sen lets wrds nums tb tp tr knd sec brd rms std sn ss sb sp past kept) (wC cI q lat und kpl len ncl spe sru sbe sen lets wrds nums tb tp tr knd sec brd rms std sn ss sb sp past kept) (f_X6_round tb tp tr knd sec rms std person i_ j_) := by
  refine CI.of (cc := cX6_round) (maxL := 6) (ty := .int) (by decide) rfl (Nat.le_of_ble_eq_true rfl) rfl ?_
  intro p e s m args below meth c A Q ls hx hb hml hts0 hown hA hP hK hD hE hl hret
  have hts : ∀ w ∈ wsL_law, w.before args s = true := fun w h => hts0 w (List.mem_cons_of_mem _ h)
  clear hts0
  have hown : s.vm.findClass RX6 = some m.cls := hown
  have hl : lv_has ls 6 [(0, .ref (q 0)), (1, .int person), (2, .int i_), (3, .int j_)] := hl
  have hS : va_S A s.heap s.heap [] := va_S.rf
  revert hP hS
  suffices hgo : ∀ (H : Heap) (locs : List Loc), va_P D vwCl (wC cI q lat und kpl len ncl spe sru sbe sen lets wrds nums tb tp tr knd sec brd rms std sn ss sb sp past kept) H → va_S A s.heap H locs → W p l e rm_X6_round s m args below meth c H locs 0 0 Q (F0 m 0 ls []) from fun a b => hgo _ _ a b
  intro H locs hP hS
  refine lv_aload_n hx hb dX6_round_0 rfl (lv_at hl 0 rfl) ?_
  refine lv_iload_n hx hb dX6_round_1 rfl (lv_at hl 1 rfl) ?_
  refine kvi (As := [.int person]) (rest := []) (q0 := 0) (ci := 6) ⟨hx, hb, hml, hown, hts⟩ hP hK hD hS hA hE (k_X6_isPerson l D cI cZ adK adV q lat und kpl len ncl spe sru sbe sen lets wrds nums tb tp tr knd sec brd rms std sn ss sb sp past kept person) (kcv hts kM_X6_isPerson (kin_17 _ (List.mem_of_getElem? (i := 1) rfl)) ⟨rfl, rfl⟩ ⟨Nat.le_of_ble_eq_true rfl, Nat.le_of_ble_eq_true rfl⟩) kBl_G kOk_G (wC cI q lat und kpl len ncl spe sru sbe sen lets wrds nums tb tp tr knd sec brd rms std sn ss sb sp past kept) (cut_c_c cI q lat und kpl len ncl spe sru sbe sen lets wrds nums tb tp tr knd sec brd rms std sn ss sb sp past kept lat und kpl len ncl spe sru sbe sen lets wrds nums tb tp tr knd sec brd rms std sn ss sb sp past kept).1 (cut_c_c cI q lat und kpl len ncl spe sru sbe sen lets wrds nums tb tp tr knd sec brd rms std sn ss sb sp past kept lat und kpl len ncl spe sru sbe sen lets wrds nums tb tp tr knd sec brd rms std sn ss sb sp past kept).2 rfl rfl rfl rfl hl.1 rfl (Nat.le_of_ble_eq_true rfl) dX6_round_2 (fun H locs hP hD hS => ?_)
  refine lv_if_eq (tgt := 16) hx hb dX6_round_5 (by decide) (fun c_5 => ?_) (fun c_5 => ?_)
  · skip
    refine lv_bipush (v := (-2)) hx hb dX6_round_16 (by decide) ?_
    have hf : (f_X6_round tb tp tr knd sec rms std person i_ j_) = (-2) := (if_pos c_5)
    rw [hf] at hret
    exact hret _ _ _ _ hP hS dX6_round_18
  · skip
    refine lv_aload_n hx hb dX6_round_8 rfl (lv_at hl 0 rfl) ?_
    refine lv_iload_n hx hb dX6_round_9 rfl (lv_at hl 3 rfl) ?_
    refine kvi (As := [.int j_]) (rest := []) (q0 := 0) (ci := 6) ⟨hx, hb, hml, hown, hts⟩ hP hK hD hS hA hE (k_X6_isBarber l D cI cZ adK adV q lat und kpl len ncl spe sru sbe sen lets wrds nums tb tp tr knd sec brd rms std sn ss sb sp past kept j_) (kcv hts kM_X6_isBarber (kin_20 _ (List.mem_of_getElem? (i := 10) rfl)) ⟨rfl, rfl⟩ ⟨Nat.le_of_ble_eq_true rfl, Nat.le_of_ble_eq_true rfl⟩) kBl_G kOk_G (wC cI q lat und kpl len ncl spe sru sbe sen lets wrds nums tb tp tr knd sec brd rms std sn ss sb sp past kept) (cut_c_c cI q lat und kpl len ncl spe sru sbe sen lets wrds nums tb tp tr knd sec brd rms std sn ss sb sp past kept lat und kpl len ncl spe sru sbe sen lets wrds nums tb tp tr knd sec brd rms std sn ss sb sp past kept).1 (cut_c_c cI q lat und kpl len ncl spe sru sbe sen lets wrds nums tb tp tr knd sec brd rms std sn ss sb sp past kept lat und kpl len ncl spe sru sbe sen lets wrds nums tb tp tr knd sec brd rms std sn ss sb sp past kept).2 rfl rfl rfl rfl hl.1 rfl (Nat.le_of_ble_eq_true rfl) dX6_round_10 (fun H locs hP hD hS => ?_)
    refine lv_if_ne (tgt := 19) hx hb dX6_round_13 (by decide) (fun c_13 => ?_) (fun c_13 => ?_)
    · skip
      refine lv_iload_n hx hb dX6_round_19 rfl (lv_at hl 2 rfl) ?_
      refine lv_if_lt (tgt := 29) hx hb dX6_round_20 (by decide) (fun c_20 => ?_) (fun c_20 => ?_)
      · skip
        refine lv_bipush (v := (-3)) hx hb dX6_round_29 (by decide) ?_
        have hf : (f_X6_round tb tp tr knd sec rms std person i_ j_) = (-3) := ((if_neg c_5).trans ((if_neg c_13).trans (if_pos c_20)))
        rw [hf] at hret
        exact hret _ _ _ _ hP hS dX6_round_31
      · skip
        refine lv_iload_n hx hb dX6_round_23 rfl (lv_at hl 2 rfl) ?_
        refine lv_bipush (v := 6) hx hb dX6_round_24 (by decide) ?_
        refine lv_icmp_lt (tgt := 32) hx hb dX6_round_26 (by decide) (fun c_26 => ?_) (fun c_26 => ?_)
        · skip
          refine lv_iconst (v := 0) hx hb dX6_round_32 (by decide) ?_
          refine lv_istore (lv' := [(4, .int 0), (0, .ref (q 0)), (1, .int person), (2, .int i_), (3, .int j_)]) hx hb dX6_round_33 hl (by decide) rfl (fun ls hl => ?_)
          refine lv_iconst (v := 0) hx hb dX6_round_35 (by decide) ?_
          refine lv_istore (lv' := [(5, .int 0), (4, .int 0), (0, .ref (q 0)), (1, .int person), (2, .int i_), (3, .int j_)]) hx hb dX6_round_36 hl (by decide) rfl (fun ls hl => ?_)
          have lp38 : ∀ (k38 i : Nat) (x38_4 : Int32), i + k38 = 6 → x38_4 = lp (fun iz z => nx_X6_round_38 tb i_ j_ iz z) 0 i → ∀ (H : Heap) (locs : List Loc) (ls : Array Slot), va_P D vwCl (wC cI q lat und kpl len ncl spe sru sbe sen lets wrds nums tb tp tr knd sec brd rms std sn ss sb sp past kept) H → va_D A (wC cI q lat und kpl len ncl spe sru sbe sen lets wrds nums tb tp tr knd sec brd rms std sn ss sb sp past kept) → va_S A s.heap H locs → lv_has ls 6 [(0, .ref (q 0)), (1, .int person), (2, .int i_), (3, .int j_), (4, .int x38_4), (5, .int (nI i))] → W p l e rm_X6_round s m args below meth c H locs 0 0 Q (F0 m 38 ls []) := by
            intro k38
            induction k38 with
            | zero =>
              intro i x38_4 hi38 ea38 H locs ls hP hD hS hl
              have hi38 : 6 = i := by omega
              subst hi38
              have ea38 : x38_4 = (x_X6_round_38 tb i_ j_) := ea38
              subst ea38
              refine lv_iload hx hb dX6_round_38 (lv_at hl 5 rfl) ?_
              refine lv_bipush (v := 6) hx hb dX6_round_40 (by decide) ?_
              refine lv_icmp_ge (tgt := 80) hx hb dX6_round_42 (by decide) (fun _ => ?_) (fun c_42 => absurd (nI_le (Nat.le_refl _) (by decide)) c_42)
              refine lv_aload_n hx hb dX6_round_80 rfl (lv_at hl 0 rfl) ?_
              refine lv_iload_n hx hb dX6_round_81 rfl (lv_at hl 3 rfl) ?_
              refine lv_iload_n hx hb dX6_round_82 rfl (lv_at hl 1 rfl) ?_
              refine lv_iload hx hb dX6_round_83 (lv_at hl 4 rfl) ?_
              refine lv_aload_n hx hb dX6_round_85 rfl (lv_at hl 0 rfl) ?_
              refine lv_iload_n hx hb dX6_round_86 rfl (lv_at hl 1 rfl) ?_
              refine kvi (As := [.int person]) (rest := [.int (x_X6_round_38 tb i_ j_), .int person, .int j_, .ref (q 0)]) (q0 := 0) (ci := 6) ⟨hx, hb, hml, hown, hts⟩ hP hK hD hS hA hE (k_X6_stripsTelling l D cI cZ adK adV q lat und kpl len ncl spe sru sbe sen lets wrds nums tb tp tr knd sec brd rms std sn ss sb sp past kept person) (kcv hts kM_X6_stripsTelling (kin_28 _ (List.mem_of_getElem? (i := 15) rfl)) ⟨rfl, rfl⟩ ⟨Nat.le_of_ble_eq_true rfl, Nat.le_of_ble_eq_true rfl⟩) kBl_G kOk_G (wC cI q lat und kpl len ncl spe sru sbe sen lets wrds nums tb tp tr knd sec brd rms std sn ss sb sp past kept) (cut_c_c cI q lat und kpl len ncl spe sru sbe sen lets wrds nums tb tp tr knd sec brd rms std sn ss sb sp past kept lat und kpl len ncl spe sru sbe sen lets wrds nums tb tp tr knd sec brd rms std sn ss sb sp past kept).1 (cut_c_c cI q lat und kpl len ncl spe sru sbe sen lets wrds nums tb tp tr knd sec brd rms std sn ss sb sp past kept lat und kpl len ncl spe sru sbe sen lets wrds nums tb tp tr knd sec brd rms std sn ss sb sp past kept).2 rfl rfl rfl rfl hl.1 rfl (Nat.le_of_ble_eq_true rfl) dX6_round_87 (fun H locs hP hD hS => ?_)
              refine lv_iand hx hb dX6_round_90 ?_
              refine lv_aload_n hx hb dX6_round_91 rfl (lv_at hl 0 rfl) ?_
              refine lv_iload_n hx hb dX6_round_92 rfl (lv_at hl 1 rfl) ?_
              refine kvi (As := [.int person]) (rest := [.int ((x_X6_round_38 tb i_ j_) &&& (f_X6_stripsTelling knd sec std person)), .int person, .int j_, .ref (q 0)]) (q0 := 0) (ci := 6) ⟨hx, hb, hml, hown, hts⟩ hP hK hD hS hA hE (k_X6_partsTold l D cI cZ adK adV q lat und kpl len ncl spe sru sbe sen lets wrds nums tb tp tr knd sec brd rms std sn ss sb sp past kept person) (kcv hts kM_X6_partsTold (kin_28 _ (List.mem_of_getElem? (i := 19) rfl)) ⟨rfl, rfl⟩ ⟨Nat.le_of_ble_eq_true rfl, Nat.le_of_ble_eq_true rfl⟩) kBl_G kOk_G (wC cI q lat und kpl len ncl spe sru sbe sen lets wrds nums tb tp tr knd sec brd rms std sn ss sb sp past kept) (cut_c_c cI q lat und kpl len ncl spe sru sbe sen lets wrds nums tb tp tr knd sec brd rms std sn ss sb sp past kept lat und kpl len ncl spe sru sbe sen lets wrds nums tb tp tr knd sec brd rms std sn ss sb sp past kept).1 (cut_c_c cI q lat und kpl len ncl spe sru sbe sen lets wrds nums tb tp tr knd sec brd rms std sn ss sb sp past kept lat und kpl len ncl spe sru sbe sen lets wrds nums tb tp tr knd sec brd rms std sn ss sb sp past kept).2 rfl rfl rfl rfl hl.1 rfl (Nat.le_of_ble_eq_true rfl) dX6_round_93 (fun H locs hP hD hS => ?_)
              refine kvi (As := [.int j_, .int person, .int ((x_X6_round_38 tb i_ j_) &&& (f_X6_stripsTelling knd sec std person)), .int (f_X6_partsTold knd sec std person)]) (rest := []) (q0 := 0) (ci := 6) ⟨hx, hb, hml, hown, hts⟩ hP hK hD hS hA hE (k_X6_fittingBehind l D cI cZ adK adV q lat und kpl len ncl spe sru sbe sen lets wrds nums tb tp tr knd sec brd rms std sn ss sb sp past kept j_ person ((x_X6_round_38 tb i_ j_) &&& (f_X6_stripsTelling knd sec std person)) (f_X6_partsTold knd sec std person)) (kcv hts kM_X6_fittingBehind (kin_28 _ (List.mem_of_getElem? (i := 23) rfl)) ⟨rfl, rfl⟩ ⟨Nat.le_of_ble_eq_true rfl, Nat.le_of_ble_eq_true rfl⟩) kBl_G kOk_G (wC cI q lat und kpl len ncl spe sru sbe sen lets wrds nums tb tp tr knd sec brd rms std sn ss sb sp past kept) (cut_c_c cI q lat und kpl len ncl spe sru sbe sen lets wrds nums tb tp tr knd sec brd rms std sn ss sb sp past kept lat und kpl len ncl spe sru sbe sen lets wrds nums tb tp tr knd sec brd rms std sn ss sb sp past kept).1 (cut_c_c cI q lat und kpl len ncl spe sru sbe sen lets wrds nums tb tp tr knd sec brd rms std sn ss sb sp past kept lat und kpl len ncl spe sru sbe sen lets wrds nums tb tp tr knd sec brd rms std sn ss sb sp past kept).2 rfl rfl rfl rfl hl.1 rfl (Nat.le_of_ble_eq_true rfl) dX6_round_96 (fun H locs hP hD hS => ?_)
              have hf : (f_X6_round tb tp tr knd sec rms std person i_ j_) = (f_X6_fittingBehind tr rms std j_ person ((x_X6_round_38 tb i_ j_) &&& (f_X6_stripsTelling knd sec std person)) (f_X6_partsTold knd sec std person)) := ((if_neg c_5).trans ((if_neg c_13).trans ((if_neg c_20).trans (if_pos c_26))))
              rw [hf] at hret
              exact hret _ _ _ _ hP hS dX6_round_99
            | succ k38 ih38 =>
              intro i x38_4 hi38 ea38 H locs ls hP hD hS hl
              have hlt38 : i < 6 := by omega
              refine lv_iload hx hb dX6_round_38 (lv_at hl 5 rfl) ?_
              refine lv_bipush (v := 6) hx hb dX6_round_40 (by decide) ?_
              refine lv_icmp_ge (tgt := 80) hx hb dX6_round_42 (by decide) (fun c_42 => absurd c_42 (nI_ge hlt38 (by decide))) (fun _ => ?_)
              refine lv_iload hx hb dX6_round_45 (lv_at hl 5 rfl) ?_
              refine lv_iload_n hx hb dX6_round_47 rfl (lv_at hl 2 rfl) ?_
              refine lv_iadd hx hb dX6_round_48 ?_
              refine lv_iconst (v := 1) hx hb dX6_round_49 (by decide) ?_
              refine lv_aload_n hx hb dX6_round_50 rfl (lv_at hl 0 rfl) ?_
              refine va_get (D := D) (ci := 6) (v := .ref (q 8)) (C := RX6) (T := TX6) (N := 9) hx hb hts inlX6 hown hK hP 0 rfl rfl 1 (by decide) (kw hts kin_1 19 rfl) (fun _ h9 => h9) rfl dX6_round_51 ?_
              refine va_get (D := D) (ci := 5) (v := .int tb) (C := RX5) (T := TX5) (N := 7) hx hb hts inlX5 hown hK hP 8 rfl rfl 0 (by decide) (kw hts kin_20 14 rfl) (fun _ h9 => h9) rfl dX6_round_54 ?_
              refine va_mmax hx hb (hml.trans hl.1.symm) hown (kw hts kin_31 0 rfl) (kw hts kin_3 3 rfl) (kw hts kin_3 4 rfl) (kw hts kin_3 5 rfl) (Nat.le_of_ble_eq_true rfl) (Nat.le_of_ble_eq_true rfl) (Nat.zero_le _) (Nat.zero_le _) dX6_round_57 ?_
              refine lv_irem hx hb dX6_round_60 (kmax1_ne _) ?_
              refine lv_iload_n hx hb dX6_round_61 rfl (lv_at hl 3 rfl) ?_
              have J62 : ∀ (H : Heap) (locs : List Loc) (ls : Array Slot), va_P D vwCl (wC cI q lat und kpl len ncl spe sru sbe sen lets wrds nums tb tp tr knd sec brd rms std sn ss sb sp past kept) H → va_D A (wC cI q lat und kpl len ncl spe sru sbe sen lets wrds nums tb tp tr knd sec brd rms std sn ss sb sp past kept) → va_S A s.heap H locs → lv_has ls 6 [(0, .ref (q 0)), (1, .int person), (2, .int i_), (3, .int j_), (4, .int (v_X6_round_62_0 tb i_ j_ i x38_4)), (5, .int (nI i))] → W p l e rm_X6_round s m args below meth c H locs 0 0 Q (F0 m 74 ls []) := by
                intro H locs ls hP hD hS hl
                refine lv_iinc (v := (nI (i + 1))) (lv' := [(5, .int (nI (i + 1))), (0, .ref (q 0)), (1, .int person), (2, .int i_), (3, .int j_), (4, .int (v_X6_round_62_0 tb i_ j_ i x38_4))]) hx hb dX6_round_74 hl (k := 5) rfl (nI_1 i) (by decide) rfl (fun ls hl => ?_)
                refine lv_goto (tgt := 38) hx hb dX6_round_77 (by decide) ?_
                have hb38 : nx_X6_round_38 tb i_ j_ i x38_4 = (v_X6_round_62_0 tb i_ j_ i x38_4) := rfl
                have hs38 : (lp (fun iz z => nx_X6_round_38 tb i_ j_ iz z) 0 (i + 1) : Int32) = nx_X6_round_38 tb i_ j_ i (lp (fun iz z => nx_X6_round_38 tb i_ j_ iz z) 0 i : Int32) := lp_succ _ _ _
                rw [← ea38] at hs38
                exact ih38 (i + 1) (v_X6_round_62_0 tb i_ j_ i x38_4) (by omega) (hb38.symm.trans hs38.symm) _ _ _ hP hD hS (lv_sub hl [1, 2, 3, 4, 5, 0] rfl)
              refine lv_icmp_ne (tgt := 74) hx hb dX6_round_62 (by decide) (fun c_62 => ?_) (fun c_62 => ?_)
              · skip
                rw [show (v_X6_round_62_0 tb i_ j_ i x38_4) = x38_4 from (if_neg c_62)] at J62
                exact J62 _ _ _ hP hD hS (lv_sub hl [0, 1, 2, 3, 4, 5] rfl)
              · skip
                refine lv_iload hx hb dX6_round_65 (lv_at hl 4 rfl) ?_
                refine lv_iconst (v := 1) hx hb dX6_round_67 (by decide) ?_
                refine lv_iload hx hb dX6_round_68 (lv_at hl 5 rfl) ?_
                refine lv_ishl hx hb dX6_round_70 ?_
                refine lv_ior hx hb dX6_round_71 ?_
                refine lv_istore (lv' := [(4, .int (x38_4 ||| (1 <<< ((nI i) &&& 31)))), (0, .ref (q 0)), (1, .int person), (2, .int i_), (3, .int j_), (5, .int (nI i))]) hx hb dX6_round_72 hl (by decide) rfl (fun ls hl => ?_)
                rw [show (v_X6_round_62_0 tb i_ j_ i x38_4) = (x38_4 ||| (1 <<< ((nI i) &&& 31))) from (if_pos c_62)] at J62
                exact J62 _ _ _ hP hD hS (lv_sub hl [1, 2, 3, 4, 0, 5] rfl)
          exact lp38 6 0 0 (Nat.zero_add _) (lp_zero _ _).symm _ _ _ hP hD hS (lv_sub hl [2, 3, 4, 5, 1, 0] rfl)
        · skip
          refine lv_bipush (v := (-3)) hx hb dX6_round_29 (by decide) ?_
          have hf : (f_X6_round tb tp tr knd sec rms std person i_ j_) = (-3) := ((if_neg c_5).trans ((if_neg c_13).trans ((if_neg c_20).trans (if_neg c_26))))
          rw [hf] at hret
          exact hret _ _ _ _ hP hS dX6_round_31
    · skip
      refine lv_bipush (v := (-2)) hx hb dX6_round_16 (by decide) ?_
      have hf : (f_X6_round tb tp tr knd sec rms std person i_ j_) = (-2) := ((if_neg c_5).trans (if_pos c_13))
      rw [hf] at hret
      exact hret _ _ _ _ hP hS dX6_round_18
