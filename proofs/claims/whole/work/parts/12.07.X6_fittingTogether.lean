def v_X6_fittingTogether_26_0 (std : Nat → Int32) (set_ : Int32) (person : Int32) (i : Nat) (x8_3 : Int32) : Int32 := if (f_X6_has set_ (nI i)) = 0 then x8_3 else (x8_3 ||| ((f_X4_stripsKnown std (nI i) person) &&& (x8_3 ^^^ (-1))))
def v_X6_fittingTogether_26_1 (std : Nat → Int32) (set_ : Int32) (person : Int32) (i : Nat) (x8_3 : Int32) (x8_4 : Int32) : Int32 := if (f_X6_has set_ (nI i)) = 0 then x8_4 else (f_X6_replaced x8_4 ((f_X4_stripsKnown std (nI i) person) &&& (x8_3 ^^^ (-1))) (f_X4_partsKnown std (nI i) person))
def nx_X6_fittingTogether_8 (std : Nat → Int32) (set_ : Int32) (person : Int32) (i : Nat) (x8_3 : Int32) (x8_4 : Int32) : Int32 × Int32 := ((v_X6_fittingTogether_26_0 std set_ person i x8_3), (v_X6_fittingTogether_26_1 std set_ person i x8_3 x8_4))
def x_X6_fittingTogether_8 (tb : Int32) (std : Nat → Int32) (set_ : Int32) (person : Int32) : Int32 × Int32 := lp (fun iz z => nx_X6_fittingTogether_8 std set_ person iz z.1 z.2) (0, 0) tb.toNatClampNeg
def f_X6_fittingTogether (tb : Int32) (tr : Int32) (rms : Nat → Int32) (std : Nat → Int32) (set_ : Int32) (person : Int32) : Int32 := (f_X5_fitting tr rms ((x_X6_fittingTogether_8 tb std set_ person).1) ((x_X6_fittingTogether_8 tb std set_ person).2))
abbrev rm_X6_fittingTogether : Room := { frames := 3, cells := 0, slots := 0, locals := 66 }
set_option maxRecDepth 100000 in
set_option maxHeartbeats 4000000 in
theorem k_X6_fittingTogether (l : Launch) (D : va_G) (cI cZ : ClassId) (adK adV : Nat → Nat) (q : Nat → Nat) (lat : Int32) (und : Int32) (kpl : Int32) (len : Int32) (ncl : Int32) (spe : Int32) (sru : Int32) (sbe : Int32) (sen : Int32) (lets : Nat → Int32) (wrds : Nat → Int32) (nums : Nat → Int32) (tb : Int32) (tp : Int32) (tr : Int32) (knd : Nat → Int32) (sec : Nat → Int32) (brd : Nat → Int32) (rms : Nat → Int32) (std : Nat → Int32) (sn : Int32) (ss : Nat → Int32) (sb : Nat → Int32) (sp : Nat → Int32) (past : Nat → Int32) (kept : Nat → Int32) (set_ : Int32) (person : Int32) : CI l D (kTy cI cZ) (kG adK adV) yX6_fittingTogether (.code yX6_fittingTogether cX6_fittingTogether 7 (some .int) :: wsL_law) rm_X6_fittingTogether [.ref (q 0), .int set_, .int person] (wC cI q lat und kpl len ncl spe sru sbe sen lets wrds nums tb tp tr knd sec brd rms std sn ss sb sp past kept) (wC cI q lat und kpl len ncl spe sru sbe sen lets wrds nums tb tp tr knd sec brd rms std sn ss sb sp past kept) (f_X6_fittingTogether tb tr rms std set_ person) := by
  refine CI.of (cc := cX6_fittingTogether) (maxL := 7) (ty := .int) (by decide) rfl (Nat.le_of_ble_eq_true rfl) rfl ?_
  intro p e s m args below meth c A Q ls hx hb hml hts0 hown hA hP hK hD hE hl hret
  have hts : ∀ w ∈ wsL_law, w.before args s = true := fun w h => hts0 w (List.mem_cons_of_mem _ h)
  clear hts0
  have hown : s.vm.findClass RX6 = some m.cls := hown
  have hl : lv_has ls 7 [(0, .ref (q 0)), (1, .int set_), (2, .int person)] := hl
  have hS : va_S A s.heap s.heap [] := va_S.rf
  revert hP hS
  suffices hgo : ∀ (H : Heap) (locs : List Loc), va_P D vwCl (wC cI q lat und kpl len ncl spe sru sbe sen lets wrds nums tb tp tr knd sec brd rms std sn ss sb sp past kept) H → va_S A s.heap H locs → W p l e rm_X6_fittingTogether s m args below meth c H locs 0 0 Q (F0 m 0 ls []) from fun a b => hgo _ _ a b
  intro H locs hP hS
  refine lv_iconst (v := 0) hx hb dX6_fittingTogether_0 (by decide) ?_
  refine lv_istore_n (lv' := [(3, .int 0), (0, .ref (q 0)), (1, .int set_), (2, .int person)]) hx hb dX6_fittingTogether_1 rfl hl (by decide) rfl (fun ls hl => ?_)
  refine lv_iconst (v := 0) hx hb dX6_fittingTogether_2 (by decide) ?_
  refine lv_istore (lv' := [(4, .int 0), (3, .int 0), (0, .ref (q 0)), (1, .int set_), (2, .int person)]) hx hb dX6_fittingTogether_3 hl (by decide) rfl (fun ls hl => ?_)
  refine lv_iconst (v := 0) hx hb dX6_fittingTogether_5 (by decide) ?_
  refine lv_istore (lv' := [(5, .int 0), (4, .int 0), (3, .int 0), (0, .ref (q 0)), (1, .int set_), (2, .int person)]) hx hb dX6_fittingTogether_6 hl (by decide) rfl (fun ls hl => ?_)
  have lp8 : ∀ (k8 i : Nat) (x8_3 : Int32) (x8_4 : Int32), i + k8 = tb.toNatClampNeg → (x8_3, x8_4) = lp (fun iz z => nx_X6_fittingTogether_8 std set_ person iz z.1 z.2) (0, 0) i → ∀ (H : Heap) (locs : List Loc) (ls : Array Slot), va_P D vwCl (wC cI q lat und kpl len ncl spe sru sbe sen lets wrds nums tb tp tr knd sec brd rms std sn ss sb sp past kept) H → va_D A (wC cI q lat und kpl len ncl spe sru sbe sen lets wrds nums tb tp tr knd sec brd rms std sn ss sb sp past kept) → va_S A s.heap H locs → lv_has ls 7 [(0, .ref (q 0)), (1, .int set_), (2, .int person), (3, .int x8_3), (4, .int x8_4), (5, .int (nI i))] → W p l e rm_X6_fittingTogether s m args below meth c H locs 0 0 Q (F0 m 8 ls []) := by
    intro k8
    induction k8 with
    | zero =>
      intro i x8_3 x8_4 hi8 ea8 H locs ls hP hD hS hl
      have hi8 : tb.toNatClampNeg = i := by omega
      subst hi8
      have ea8 : (x8_3, x8_4) = (x_X6_fittingTogether_8 tb std set_ person) := ea8
      have e8_0 : x8_3 = ((x_X6_fittingTogether_8 tb std set_ person).1) := (kfst ea8)
      have e8_1 : x8_4 = ((x_X6_fittingTogether_8 tb std set_ person).2) := (ksnd ea8)
      clear ea8
      have hl : lv_has ls 7 [(0, .ref (q 0)), (1, .int set_), (2, .int person), (3, .int ((x_X6_fittingTogether_8 tb std set_ person).1)), (4, .int ((x_X6_fittingTogether_8 tb std set_ person).2)), (5, .int (nI tb.toNatClampNeg))] := by rw [← e8_0, ← e8_1]; exact hl
      refine lv_iload hx hb dX6_fittingTogether_8 (lv_at hl 5 rfl) ?_
      refine lv_aload_n hx hb dX6_fittingTogether_10 rfl (lv_at hl 0 rfl) ?_
      refine va_get (D := D) (ci := 6) (v := .ref (q 8)) (C := RX6) (T := TX6) (N := 9) hx hb hts inlX6 hown hK hP 0 rfl rfl 1 (by decide) (kw hts kin_1 19 rfl) (fun _ h9 => h9) rfl dX6_fittingTogether_11 ?_
      refine va_get (D := D) (ci := 5) (v := .int tb) (C := RX5) (T := TX5) (N := 7) hx hb hts inlX5 hown hK hP 8 rfl rfl 0 (by decide) (kw hts kin_20 14 rfl) (fun _ h9 => h9) rfl dX6_fittingTogether_14 ?_
      refine lv_icmp_ge (tgt := 75) hx hb dX6_fittingTogether_17 (by decide) (fun _ => ?_) (fun c_17 => absurd (kle_clamp _) c_17)
      refine lv_aload_n hx hb dX6_fittingTogether_75 rfl (lv_at hl 0 rfl) ?_
      refine va_get (D := D) (ci := 6) (v := .ref (q 8)) (C := RX6) (T := TX6) (N := 9) hx hb hts inlX6 hown hK hP 0 rfl rfl 1 (by decide) (kw hts kin_1 19 rfl) (fun _ h9 => h9) rfl dX6_fittingTogether_76 ?_
      refine lv_iload_n hx hb dX6_fittingTogether_79 rfl (lv_at hl 3 rfl) ?_
      refine lv_iload hx hb dX6_fittingTogether_80 (lv_at hl 4 rfl) ?_
      refine kvi (As := [.int ((x_X6_fittingTogether_8 tb std set_ person).1), .int ((x_X6_fittingTogether_8 tb std set_ person).2)]) (rest := []) (q0 := 0) (ci := 5) ⟨hx, hb, hml, hown, hts⟩ hP hK hD hS hA hE (k_X5_fitting l D cI cZ adK adV q tb tp tr knd sec brd rms ((x_X6_fittingTogether_8 tb std set_ person).1) ((x_X6_fittingTogether_8 tb std set_ person).2)) (kcv hts kM_X5_fitting (kin_20 _ (List.mem_of_getElem? (i := 23) rfl)) ⟨rfl, rfl⟩ ⟨Nat.le_of_ble_eq_true rfl, Nat.le_of_ble_eq_true rfl⟩) kBl_G kOk_G (wC cI q lat und kpl len ncl spe sru sbe sen lets wrds nums tb tp tr knd sec brd rms std sn ss sb sp past kept) (cut_c_town cI q lat und kpl len ncl spe sru sbe sen lets wrds nums tb tp tr knd sec brd rms std sn ss sb sp past kept tb tp tr knd sec brd rms).1 (cut_c_town cI q lat und kpl len ncl spe sru sbe sen lets wrds nums tb tp tr knd sec brd rms std sn ss sb sp past kept tb tp tr knd sec brd rms).2 rfl rfl rfl rfl hl.1 rfl (Nat.le_of_ble_eq_true rfl) dX6_fittingTogether_82 (fun H locs hP hD hS => ?_)
      have hf : (f_X6_fittingTogether tb tr rms std set_ person) = (f_X5_fitting tr rms ((x_X6_fittingTogether_8 tb std set_ person).1) ((x_X6_fittingTogether_8 tb std set_ person).2)) := rfl
      rw [hf] at hret
      exact hret _ _ _ _ hP hS dX6_fittingTogether_85
    | succ k8 ih8 =>
      intro i x8_3 x8_4 hi8 ea8 H locs ls hP hD hS hl
      have hlt8 : i < tb.toNatClampNeg := by omega
      refine lv_iload hx hb dX6_fittingTogether_8 (lv_at hl 5 rfl) ?_
      refine lv_aload_n hx hb dX6_fittingTogether_10 rfl (lv_at hl 0 rfl) ?_
      refine va_get (D := D) (ci := 6) (v := .ref (q 8)) (C := RX6) (T := TX6) (N := 9) hx hb hts inlX6 hown hK hP 0 rfl rfl 1 (by decide) (kw hts kin_1 19 rfl) (fun _ h9 => h9) rfl dX6_fittingTogether_11 ?_
      refine va_get (D := D) (ci := 5) (v := .int tb) (C := RX5) (T := TX5) (N := 7) hx hb hts inlX5 hown hK hP 8 rfl rfl 0 (by decide) (kw hts kin_20 14 rfl) (fun _ h9 => h9) rfl dX6_fittingTogether_14 ?_
      refine lv_icmp_ge (tgt := 75) hx hb dX6_fittingTogether_17 (by decide) (fun c_17 => absurd c_17 (klt_clamp hlt8)) (fun _ => ?_)
      refine lv_iload_n hx hb dX6_fittingTogether_20 rfl (lv_at hl 1 rfl) ?_
      refine lv_iload hx hb dX6_fittingTogether_21 (lv_at hl 5 rfl) ?_
      refine ksi (As := [.int set_, .int (nI i)]) (rest := []) ⟨hx, hb, hml, hown, hts⟩ hP hK hD hS hA hE (k_X6_has l D cI cZ adK adV set_ (nI i)) (kcs hts kM_X6_has (kin_28 _ (List.mem_of_getElem? (i := 4) rfl)) ⟨rfl, rfl⟩ ⟨Nat.le_of_ble_eq_true rfl, Nat.le_of_ble_eq_true rfl⟩) kBl_G kOk_G rfl hl.1 rfl (Nat.le_of_ble_eq_true rfl) dX6_fittingTogether_23 (fun H locs hP hD hS => ?_)
      have J26 : ∀ (H : Heap) (locs : List Loc) (ls : Array Slot), va_P D vwCl (wC cI q lat und kpl len ncl spe sru sbe sen lets wrds nums tb tp tr knd sec brd rms std sn ss sb sp past kept) H → va_D A (wC cI q lat und kpl len ncl spe sru sbe sen lets wrds nums tb tp tr knd sec brd rms std sn ss sb sp past kept) → va_S A s.heap H locs → lv_has ls 7 [(0, .ref (q 0)), (1, .int set_), (2, .int person), (3, .int (v_X6_fittingTogether_26_0 std set_ person i x8_3)), (4, .int (v_X6_fittingTogether_26_1 std set_ person i x8_3 x8_4)), (5, .int (nI i))] → W p l e rm_X6_fittingTogether s m args below meth c H locs 0 0 Q (F0 m 69 ls []) := by
        intro H locs ls hP hD hS hl
        refine lv_iinc (v := (nI (i + 1))) (lv' := [(5, .int (nI (i + 1))), (0, .ref (q 0)), (1, .int set_), (2, .int person), (3, .int (v_X6_fittingTogether_26_0 std set_ person i x8_3)), (4, .int (v_X6_fittingTogether_26_1 std set_ person i x8_3 x8_4))]) hx hb dX6_fittingTogether_69 hl (k := 5) rfl (nI_1 i) (by decide) rfl (fun ls hl => ?_)
        refine lv_goto (tgt := 8) hx hb dX6_fittingTogether_72 (by decide) ?_
        have hb8 : nx_X6_fittingTogether_8 std set_ person i x8_3 x8_4 = ((v_X6_fittingTogether_26_0 std set_ person i x8_3), (v_X6_fittingTogether_26_1 std set_ person i x8_3 x8_4)) := rfl
        have hs8 : (lp (fun iz z => nx_X6_fittingTogether_8 std set_ person iz z.1 z.2) (0, 0) (i + 1) : Int32 × Int32) = nx_X6_fittingTogether_8 std set_ person i ((lp (fun iz z => nx_X6_fittingTogether_8 std set_ person iz z.1 z.2) (0, 0) i : Int32 × Int32).1) ((lp (fun iz z => nx_X6_fittingTogether_8 std set_ person iz z.1 z.2) (0, 0) i : Int32 × Int32).2) := lp_succ _ _ _
        rw [← ea8] at hs8
        exact ih8 (i + 1) (v_X6_fittingTogether_26_0 std set_ person i x8_3) (v_X6_fittingTogether_26_1 std set_ person i x8_3 x8_4) (by omega) (hb8.symm.trans hs8.symm) _ _ _ hP hD hS (lv_sub hl [1, 2, 3, 4, 5, 0] rfl)
      refine lv_if_eq (tgt := 69) hx hb dX6_fittingTogether_26 (by decide) (fun c_26 => ?_) (fun c_26 => ?_)
      · skip
        rw [show (v_X6_fittingTogether_26_0 std set_ person i x8_3) = x8_3 from (if_pos c_26)] at J26
        rw [show (v_X6_fittingTogether_26_1 std set_ person i x8_3 x8_4) = x8_4 from (if_pos c_26)] at J26
        exact J26 _ _ _ hP hD hS (lv_sub hl [0, 1, 2, 3, 4, 5] rfl)
      · skip
        refine lv_aload_n hx hb dX6_fittingTogether_29 rfl (lv_at hl 0 rfl) ?_
        refine va_get (D := D) (ci := 6) (v := .ref (q 17)) (C := RX6) (T := TX6) (N := 9) hx hb hts inlX6 hown hK hP 0 rfl rfl 2 (by decide) (kw hts kin_1 23 rfl) (fun _ h9 => h9) rfl dX6_fittingTogether_30 ?_
        refine lv_iload hx hb dX6_fittingTogether_33 (lv_at hl 5 rfl) ?_
        refine lv_iload_n hx hb dX6_fittingTogether_35 rfl (lv_at hl 2 rfl) ?_
        refine kvi (As := [.int (nI i), .int person]) (rest := []) (q0 := 0) (ci := 4) ⟨hx, hb, hml, hown, hts⟩ hP hK hD hS hA hE (k_X4_stripsKnown l D cI cZ adK adV q std (nI i) person) (kcv hts kM_X4_stripsKnown (kin_20 _ (List.mem_of_getElem? (i := 15) rfl)) ⟨rfl, rfl⟩ ⟨Nat.le_of_ble_eq_true rfl, Nat.le_of_ble_eq_true rfl⟩) kBl_G kOk_G (wC cI q lat und kpl len ncl spe sru sbe sen lets wrds nums tb tp tr knd sec brd rms std sn ss sb sp past kept) (cut_c_std cI q lat und kpl len ncl spe sru sbe sen lets wrds nums tb tp tr knd sec brd rms std sn ss sb sp past kept std).1 (cut_c_std cI q lat und kpl len ncl spe sru sbe sen lets wrds nums tb tp tr knd sec brd rms std sn ss sb sp past kept std).2 rfl rfl rfl rfl hl.1 rfl (Nat.le_of_ble_eq_true rfl) dX6_fittingTogether_36 (fun H locs hP hD hS => ?_)
        refine lv_iload_n hx hb dX6_fittingTogether_39 rfl (lv_at hl 3 rfl) ?_
        refine lv_iconst (v := (-1)) hx hb dX6_fittingTogether_40 (by decide) ?_
        refine lv_ixor hx hb dX6_fittingTogether_41 ?_
        refine lv_iand hx hb dX6_fittingTogether_42 ?_
        refine lv_istore (lv' := [(6, .int ((f_X4_stripsKnown std (nI i) person) &&& (x8_3 ^^^ (-1)))), (0, .ref (q 0)), (1, .int set_), (2, .int person), (3, .int x8_3), (4, .int x8_4), (5, .int (nI i))]) hx hb dX6_fittingTogether_43 hl (by decide) rfl (fun ls hl => ?_)
        refine lv_iload hx hb dX6_fittingTogether_45 (lv_at hl 5 rfl) ?_
        refine lv_iload hx hb dX6_fittingTogether_47 (lv_at hl 0 rfl) ?_
        refine lv_aload_n hx hb dX6_fittingTogether_49 rfl (lv_at hl 1 rfl) ?_
        refine va_get (D := D) (ci := 6) (v := .ref (q 17)) (C := RX6) (T := TX6) (N := 9) hx hb hts inlX6 hown hK hP 0 rfl rfl 2 (by decide) (kw hts kin_1 23 rfl) (fun _ h9 => h9) rfl dX6_fittingTogether_50 ?_
        refine lv_iload hx hb dX6_fittingTogether_53 (lv_at hl 6 rfl) ?_
        refine lv_iload_n hx hb dX6_fittingTogether_55 rfl (lv_at hl 3 rfl) ?_
        refine kvi (As := [.int (nI i), .int person]) (rest := [.int ((f_X4_stripsKnown std (nI i) person) &&& (x8_3 ^^^ (-1))), .int x8_4]) (q0 := 0) (ci := 4) ⟨hx, hb, hml, hown, hts⟩ hP hK hD hS hA hE (k_X4_partsKnown l D cI cZ adK adV q std (nI i) person) (kcv hts kM_X4_partsKnown (kin_20 _ (List.mem_of_getElem? (i := 19) rfl)) ⟨rfl, rfl⟩ ⟨Nat.le_of_ble_eq_true rfl, Nat.le_of_ble_eq_true rfl⟩) kBl_G kOk_G (wC cI q lat und kpl len ncl spe sru sbe sen lets wrds nums tb tp tr knd sec brd rms std sn ss sb sp past kept) (cut_c_std cI q lat und kpl len ncl spe sru sbe sen lets wrds nums tb tp tr knd sec brd rms std sn ss sb sp past kept std).1 (cut_c_std cI q lat und kpl len ncl spe sru sbe sen lets wrds nums tb tp tr knd sec brd rms std sn ss sb sp past kept std).2 rfl rfl rfl rfl hl.1 rfl (Nat.le_of_ble_eq_true rfl) dX6_fittingTogether_56 (fun H locs hP hD hS => ?_)
        refine ksi (As := [.int x8_4, .int ((f_X4_stripsKnown std (nI i) person) &&& (x8_3 ^^^ (-1))), .int (f_X4_partsKnown std (nI i) person)]) (rest := []) ⟨hx, hb, hml, hown, hts⟩ hP hK hD hS hA hE (k_X6_replaced l D cI cZ adK adV x8_4 ((f_X4_stripsKnown std (nI i) person) &&& (x8_3 ^^^ (-1))) (f_X4_partsKnown std (nI i) person)) (kcs hts kM_X6_replaced (kin_29 _ (List.mem_of_getElem? (i := 3) rfl)) ⟨rfl, rfl⟩ ⟨Nat.le_of_ble_eq_true rfl, Nat.le_of_ble_eq_true rfl⟩) kBl_G kOk_G rfl hl.1 rfl (Nat.le_of_ble_eq_true rfl) dX6_fittingTogether_59 (fun H locs hP hD hS => ?_)
        refine lv_istore (lv' := [(4, .int (f_X6_replaced x8_4 ((f_X4_stripsKnown std (nI i) person) &&& (x8_3 ^^^ (-1))) (f_X4_partsKnown std (nI i) person))), (6, .int ((f_X4_stripsKnown std (nI i) person) &&& (x8_3 ^^^ (-1)))), (0, .ref (q 0)), (1, .int set_), (2, .int person), (3, .int x8_3), (5, .int (nI i))]) hx hb dX6_fittingTogether_62 hl (by decide) rfl (fun ls hl => ?_)
        refine lv_iload_n hx hb dX6_fittingTogether_64 rfl (lv_at hl 5 rfl) ?_
        refine lv_iload hx hb dX6_fittingTogether_65 (lv_at hl 1 rfl) ?_
        refine lv_ior hx hb dX6_fittingTogether_67 ?_
        refine lv_istore_n (lv' := [(3, .int (x8_3 ||| ((f_X4_stripsKnown std (nI i) person) &&& (x8_3 ^^^ (-1))))), (4, .int (f_X6_replaced x8_4 ((f_X4_stripsKnown std (nI i) person) &&& (x8_3 ^^^ (-1))) (f_X4_partsKnown std (nI i) person))), (6, .int ((f_X4_stripsKnown std (nI i) person) &&& (x8_3 ^^^ (-1)))), (0, .ref (q 0)), (1, .int set_), (2, .int person), (5, .int (nI i))]) hx hb dX6_fittingTogether_68 rfl hl (by decide) rfl (fun ls hl => ?_)
        rw [show (v_X6_fittingTogether_26_0 std set_ person i x8_3) = (x8_3 ||| ((f_X4_stripsKnown std (nI i) person) &&& (x8_3 ^^^ (-1)))) from (if_neg c_26)] at J26
        rw [show (v_X6_fittingTogether_26_1 std set_ person i x8_3 x8_4) = (f_X6_replaced x8_4 ((f_X4_stripsKnown std (nI i) person) &&& (x8_3 ^^^ (-1))) (f_X4_partsKnown std (nI i) person)) from (if_neg c_26)] at J26
        exact J26 _ _ _ hP hD hS (lv_sub hl [3, 4, 5, 0, 1, 6] rfl)
  exact lp8 tb.toNatClampNeg 0 0 0 (Nat.zero_add _) (lp_zero _ _).symm _ _ _ hP hD hS (lv_sub hl [3, 4, 5, 2, 1, 0] rfl)
