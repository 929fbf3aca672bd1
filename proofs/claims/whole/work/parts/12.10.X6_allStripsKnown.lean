def nx_X6_allStripsKnown_17 (std : Nat → Int32) (i : Nat) (i1 : Nat) (x17_1 : Int32) : Int32 := (x17_1 + (f_J6_bitCount_0f7a4 (f_X4_stripsKnown std (nI i) (nI i1))))
def x_X6_allStripsKnown_17 (tp : Int32) (std : Nat → Int32) (i : Nat) (x4_1 : Int32) : Int32 := lp (fun iz z => nx_X6_allStripsKnown_17 std i iz z) x4_1 tp.toNatClampNeg
def nx_X6_allStripsKnown_4 (tp : Int32) (std : Nat → Int32) (i : Nat) (x4_1 : Int32) : Int32 := (x_X6_allStripsKnown_17 tp std i x4_1)
def x_X6_allStripsKnown_4 (tb : Int32) (tp : Int32) (std : Nat → Int32) : Int32 := lp (fun iz z => nx_X6_allStripsKnown_4 tp std iz z) 0 tb.toNatClampNeg
def f_X6_allStripsKnown (tb : Int32) (tp : Int32) (std : Nat → Int32) : Int32 := (x_X6_allStripsKnown_4 tb tp std)
abbrev rm_X6_allStripsKnown : Room := { frames := 2, cells := 0, slots := 0, locals := 43 }
set_option maxRecDepth 100000 in
set_option maxHeartbeats 4000000 in
theorem k_X6_allStripsKnown (l : Launch) (D : va_G) (cI cZ : ClassId) (adK adV : Nat → Nat) (q : Nat → Nat) (lat : Int32) (und : Int32) (kpl : Int32) (len : Int32) (ncl : Int32) (spe : Int32) (sru : Int32) (sbe : Int32) (sen : Int32) (lets : Nat → Int32) (wrds : Nat → Int32) (nums : Nat → Int32) (tb : Int32) (tp : Int32) (tr : Int32) (knd : Nat → Int32) (sec : Nat → Int32) (brd : Nat → Int32) (rms : Nat → Int32) (std : Nat → Int32) (sn : Int32) (ss : Nat → Int32) (sb : Nat → Int32) (sp : Nat → Int32) (past : Nat → Int32) (kept : Nat → Int32) : CI l D (kTy cI cZ) (kG adK adV) yX6_allStripsKnown (.code yX6_allStripsKnown cX6_allStripsKnown 4 (some .int) :: wsL_law) rm_X6_allStripsKnown [.ref (q 0)] (wC cI q lat und kpl len ncl spe sru sbe sen lets wrds nums tb tp tr knd sec brd rms std sn ss sb sp past kept) (wC cI q lat und kpl len ncl spe sru sbe sen lets wrds nums tb tp tr knd sec brd rms std sn ss sb sp past kept) (f_X6_allStripsKnown tb tp std) := by
  refine CI.of (cc := cX6_allStripsKnown) (maxL := 4) (ty := .int) (by decide) rfl (Nat.le_of_ble_eq_true rfl) rfl ?_
  intro p e s m args below meth c A Q ls hx hb hml hts0 hown hA hP hK hD hE hl hret
  have hts : ∀ w ∈ wsL_law, w.before args s = true := fun w h => hts0 w (List.mem_cons_of_mem _ h)
  clear hts0
  have hown : s.vm.findClass RX6 = some m.cls := hown
  have hl : lv_has ls 4 [(0, .ref (q 0))] := hl
  have hS : va_S A s.heap s.heap [] := va_S.rf
  revert hP hS
  suffices hgo : ∀ (H : Heap) (locs : List Loc), va_P D vwCl (wC cI q lat und kpl len ncl spe sru sbe sen lets wrds nums tb tp tr knd sec brd rms std sn ss sb sp past kept) H → va_S A s.heap H locs → W p l e rm_X6_allStripsKnown s m args below meth c H locs 0 0 Q (F0 m 0 ls []) from fun a b => hgo _ _ a b
  intro H locs hP hS
  refine lv_iconst (v := 0) hx hb dX6_allStripsKnown_0 (by decide) ?_
  refine lv_istore_n (lv' := [(1, .int 0), (0, .ref (q 0))]) hx hb dX6_allStripsKnown_1 rfl hl (by decide) rfl (fun ls hl => ?_)
  refine lv_iconst (v := 0) hx hb dX6_allStripsKnown_2 (by decide) ?_
  refine lv_istore_n (lv' := [(2, .int 0), (1, .int 0), (0, .ref (q 0))]) hx hb dX6_allStripsKnown_3 rfl hl (by decide) rfl (fun ls hl => ?_)
  have lp4 : ∀ (k4 i : Nat) (x4_1 : Int32), i + k4 = tb.toNatClampNeg → x4_1 = lp (fun iz z => nx_X6_allStripsKnown_4 tp std iz z) 0 i → ∀ (H : Heap) (locs : List Loc) (ls : Array Slot), va_P D vwCl (wC cI q lat und kpl len ncl spe sru sbe sen lets wrds nums tb tp tr knd sec brd rms std sn ss sb sp past kept) H → va_D A (wC cI q lat und kpl len ncl spe sru sbe sen lets wrds nums tb tp tr knd sec brd rms std sn ss sb sp past kept) → va_S A s.heap H locs → lv_has ls 4 [(0, .ref (q 0)), (1, .int x4_1), (2, .int (nI i))] → W p l e rm_X6_allStripsKnown s m args below meth c H locs 0 0 Q (F0 m 4 ls []) := by
    intro k4
    induction k4 with
    | zero =>
      intro i x4_1 hi4 ea4 H locs ls hP hD hS hl
      have hi4 : tb.toNatClampNeg = i := by omega
      subst hi4
      have ea4 : x4_1 = (x_X6_allStripsKnown_4 tb tp std) := ea4
      subst ea4
      refine lv_iload_n hx hb dX6_allStripsKnown_4 rfl (lv_at hl 2 rfl) ?_
      refine lv_aload_n hx hb dX6_allStripsKnown_5 rfl (lv_at hl 0 rfl) ?_
      refine va_get (D := D) (ci := 6) (v := .ref (q 8)) (C := RX6) (T := TX6) (N := 9) hx hb hts inlX6 hown hK hP 0 rfl rfl 1 (by decide) (kw hts kin_1 19 rfl) (fun _ h9 => h9) rfl dX6_allStripsKnown_6 ?_
      refine va_get (D := D) (ci := 5) (v := .int tb) (C := RX5) (T := TX5) (N := 7) hx hb hts inlX5 hown hK hP 8 rfl rfl 0 (by decide) (kw hts kin_20 14 rfl) (fun _ h9 => h9) rfl dX6_allStripsKnown_9 ?_
      refine lv_icmp_ge (tgt := 55) hx hb dX6_allStripsKnown_12 (by decide) (fun _ => ?_) (fun c_12 => absurd (kle_clamp _) c_12)
      refine lv_iload_n hx hb dX6_allStripsKnown_55 rfl (lv_at hl 1 rfl) ?_
      have hf : (f_X6_allStripsKnown tb tp std) = (x_X6_allStripsKnown_4 tb tp std) := rfl
      rw [hf] at hret
      exact hret _ _ _ _ hP hS dX6_allStripsKnown_56
    | succ k4 ih4 =>
      intro i x4_1 hi4 ea4 H locs ls hP hD hS hl
      have hlt4 : i < tb.toNatClampNeg := by omega
      refine lv_iload_n hx hb dX6_allStripsKnown_4 rfl (lv_at hl 2 rfl) ?_
      refine lv_aload_n hx hb dX6_allStripsKnown_5 rfl (lv_at hl 0 rfl) ?_
      refine va_get (D := D) (ci := 6) (v := .ref (q 8)) (C := RX6) (T := TX6) (N := 9) hx hb hts inlX6 hown hK hP 0 rfl rfl 1 (by decide) (kw hts kin_1 19 rfl) (fun _ h9 => h9) rfl dX6_allStripsKnown_6 ?_
      refine va_get (D := D) (ci := 5) (v := .int tb) (C := RX5) (T := TX5) (N := 7) hx hb hts inlX5 hown hK hP 8 rfl rfl 0 (by decide) (kw hts kin_20 14 rfl) (fun _ h9 => h9) rfl dX6_allStripsKnown_9 ?_
      refine lv_icmp_ge (tgt := 55) hx hb dX6_allStripsKnown_12 (by decide) (fun c_12 => absurd c_12 (klt_clamp hlt4)) (fun _ => ?_)
      refine lv_iconst (v := 0) hx hb dX6_allStripsKnown_15 (by decide) ?_
      refine lv_istore_n (lv' := [(3, .int 0), (0, .ref (q 0)), (1, .int x4_1), (2, .int (nI i))]) hx hb dX6_allStripsKnown_16 rfl hl (by decide) rfl (fun ls hl => ?_)
      have lp17 : ∀ (k17 i1 : Nat) (x17_1 : Int32), i1 + k17 = tp.toNatClampNeg → x17_1 = lp (fun iz z => nx_X6_allStripsKnown_17 std i iz z) x4_1 i1 → ∀ (H : Heap) (locs : List Loc) (ls : Array Slot), va_P D vwCl (wC cI q lat und kpl len ncl spe sru sbe sen lets wrds nums tb tp tr knd sec brd rms std sn ss sb sp past kept) H → va_D A (wC cI q lat und kpl len ncl spe sru sbe sen lets wrds nums tb tp tr knd sec brd rms std sn ss sb sp past kept) → va_S A s.heap H locs → lv_has ls 4 [(0, .ref (q 0)), (1, .int x17_1), (2, .int (nI i)), (3, .int (nI i1))] → W p l e rm_X6_allStripsKnown s m args below meth c H locs 0 0 Q (F0 m 17 ls []) := by
        intro k17
        induction k17 with
        | zero =>
          intro i1 x17_1 hi17 ea17 H locs ls hP hD hS hl
          have hi17 : tp.toNatClampNeg = i1 := by omega
          subst hi17
          have ea17 : x17_1 = (x_X6_allStripsKnown_17 tp std i x4_1) := ea17
          subst ea17
          refine lv_iload_n hx hb dX6_allStripsKnown_17 rfl (lv_at hl 3 rfl) ?_
          refine lv_aload_n hx hb dX6_allStripsKnown_18 rfl (lv_at hl 0 rfl) ?_
          refine va_get (D := D) (ci := 6) (v := .ref (q 8)) (C := RX6) (T := TX6) (N := 9) hx hb hts inlX6 hown hK hP 0 rfl rfl 1 (by decide) (kw hts kin_1 19 rfl) (fun _ h9 => h9) rfl dX6_allStripsKnown_19 ?_
          refine va_get (D := D) (ci := 5) (v := .int tp) (C := RX5) (T := TX5) (N := 7) hx hb hts inlX5 hown hK hP 8 rfl rfl 1 (by decide) (kw hts kin_7 1 rfl) (fun _ h9 => h9) rfl dX6_allStripsKnown_22 ?_
          refine lv_icmp_ge (tgt := 49) hx hb dX6_allStripsKnown_25 (by decide) (fun _ => ?_) (fun c_25 => absurd (kle_clamp _) c_25)
          refine lv_iinc (v := (nI (i + 1))) (lv' := [(2, .int (nI (i + 1))), (0, .ref (q 0)), (1, .int (x_X6_allStripsKnown_17 tp std i x4_1)), (3, .int (nI tp.toNatClampNeg))]) hx hb dX6_allStripsKnown_49 hl (k := 2) rfl (nI_1 i) (by decide) rfl (fun ls hl => ?_)
          refine lv_goto (tgt := 4) hx hb dX6_allStripsKnown_52 (by decide) ?_
          have hb4 : nx_X6_allStripsKnown_4 tp std i x4_1 = (x_X6_allStripsKnown_17 tp std i x4_1) := rfl
          have hs4 : (lp (fun iz z => nx_X6_allStripsKnown_4 tp std iz z) 0 (i + 1) : Int32) = nx_X6_allStripsKnown_4 tp std i (lp (fun iz z => nx_X6_allStripsKnown_4 tp std iz z) 0 i : Int32) := lp_succ _ _ _
          rw [← ea4] at hs4
          exact ih4 (i + 1) (x_X6_allStripsKnown_17 tp std i x4_1) (by omega) (hb4.symm.trans hs4.symm) _ _ _ hP hD hS (lv_sub hl [1, 2, 0] rfl)
        | succ k17 ih17 =>
          intro i1 x17_1 hi17 ea17 H locs ls hP hD hS hl
          have hlt17 : i1 < tp.toNatClampNeg := by omega
          refine lv_iload_n hx hb dX6_allStripsKnown_17 rfl (lv_at hl 3 rfl) ?_
          refine lv_aload_n hx hb dX6_allStripsKnown_18 rfl (lv_at hl 0 rfl) ?_
          refine va_get (D := D) (ci := 6) (v := .ref (q 8)) (C := RX6) (T := TX6) (N := 9) hx hb hts inlX6 hown hK hP 0 rfl rfl 1 (by decide) (kw hts kin_1 19 rfl) (fun _ h9 => h9) rfl dX6_allStripsKnown_19 ?_
          refine va_get (D := D) (ci := 5) (v := .int tp) (C := RX5) (T := TX5) (N := 7) hx hb hts inlX5 hown hK hP 8 rfl rfl 1 (by decide) (kw hts kin_7 1 rfl) (fun _ h9 => h9) rfl dX6_allStripsKnown_22 ?_
          refine lv_icmp_ge (tgt := 49) hx hb dX6_allStripsKnown_25 (by decide) (fun c_25 => absurd c_25 (klt_clamp hlt17)) (fun _ => ?_)
          refine lv_iload_n hx hb dX6_allStripsKnown_28 rfl (lv_at hl 1 rfl) ?_
          refine lv_aload_n hx hb dX6_allStripsKnown_29 rfl (lv_at hl 0 rfl) ?_
          refine va_get (D := D) (ci := 6) (v := .ref (q 17)) (C := RX6) (T := TX6) (N := 9) hx hb hts inlX6 hown hK hP 0 rfl rfl 2 (by decide) (kw hts kin_1 23 rfl) (fun _ h9 => h9) rfl dX6_allStripsKnown_30 ?_
          refine lv_iload_n hx hb dX6_allStripsKnown_33 rfl (lv_at hl 2 rfl) ?_
          refine lv_iload_n hx hb dX6_allStripsKnown_34 rfl (lv_at hl 3 rfl) ?_
          refine kvi (As := [.int (nI i), .int (nI i1)]) (rest := [.int x17_1]) (q0 := 0) (ci := 4) ⟨hx, hb, hml, hown, hts⟩ hP hK hD hS hA hE (k_X4_stripsKnown l D cI cZ adK adV q std (nI i) (nI i1)) (kcv hts kM_X4_stripsKnown (kin_20 _ (List.mem_of_getElem? (i := 15) rfl)) ⟨rfl, rfl⟩ ⟨Nat.le_of_ble_eq_true rfl, Nat.le_of_ble_eq_true rfl⟩) kBl_G kOk_G (wC cI q lat und kpl len ncl spe sru sbe sen lets wrds nums tb tp tr knd sec brd rms std sn ss sb sp past kept) (cut_c_std cI q lat und kpl len ncl spe sru sbe sen lets wrds nums tb tp tr knd sec brd rms std sn ss sb sp past kept std).1 (cut_c_std cI q lat und kpl len ncl spe sru sbe sen lets wrds nums tb tp tr knd sec brd rms std sn ss sb sp past kept std).2 rfl rfl rfl rfl hl.1 rfl (Nat.le_of_ble_eq_true rfl) dX6_allStripsKnown_35 (fun H locs hP hD hS => ?_)
          refine ksi (As := [.int (f_X4_stripsKnown std (nI i) (nI i1))]) (rest := [.int x17_1]) ⟨hx, hb, hml, hown, hts⟩ hP hK hD hS hA hE (k_J6_bitCount_0f7a4 l D cI cZ adK adV (f_X4_stripsKnown std (nI i) (nI i1))) (kcs hts kM_J6_bitCount_0f7a4 (kin_26 _ (List.mem_of_getElem? (i := 13) rfl)) ⟨rfl, rfl⟩ ⟨Nat.le_of_ble_eq_true rfl, Nat.le_of_ble_eq_true rfl⟩) kBl_G kOk_G rfl hl.1 rfl (Nat.le_of_ble_eq_true rfl) dX6_allStripsKnown_38 (fun H locs hP hD hS => ?_)
          refine lv_iadd hx hb dX6_allStripsKnown_41 ?_
          refine lv_istore_n (lv' := [(1, .int (x17_1 + (f_J6_bitCount_0f7a4 (f_X4_stripsKnown std (nI i) (nI i1))))), (0, .ref (q 0)), (2, .int (nI i)), (3, .int (nI i1))]) hx hb dX6_allStripsKnown_42 rfl hl (by decide) rfl (fun ls hl => ?_)
          refine lv_iinc (v := (nI (i1 + 1))) (lv' := [(3, .int (nI (i1 + 1))), (1, .int (x17_1 + (f_J6_bitCount_0f7a4 (f_X4_stripsKnown std (nI i) (nI i1))))), (0, .ref (q 0)), (2, .int (nI i))]) hx hb dX6_allStripsKnown_43 hl (k := 3) rfl (nI_1 i1) (by decide) rfl (fun ls hl => ?_)
          refine lv_goto (tgt := 17) hx hb dX6_allStripsKnown_46 (by decide) ?_
          have hb17 : nx_X6_allStripsKnown_17 std i i1 x17_1 = (x17_1 + (f_J6_bitCount_0f7a4 (f_X4_stripsKnown std (nI i) (nI i1)))) := rfl
          have hs17 : (lp (fun iz z => nx_X6_allStripsKnown_17 std i iz z) x4_1 (i1 + 1) : Int32) = nx_X6_allStripsKnown_17 std i i1 (lp (fun iz z => nx_X6_allStripsKnown_17 std i iz z) x4_1 i1 : Int32) := lp_succ _ _ _
          rw [← ea17] at hs17
          exact ih17 (i1 + 1) (x17_1 + (f_J6_bitCount_0f7a4 (f_X4_stripsKnown std (nI i) (nI i1)))) (by omega) (hb17.symm.trans hs17.symm) _ _ _ hP hD hS (lv_sub hl [2, 1, 3, 0] rfl)
      exact lp17 tp.toNatClampNeg 0 x4_1 (Nat.zero_add _) (lp_zero _ _).symm _ _ _ hP hD hS (lv_sub hl [1, 2, 3, 0] rfl)
  exact lp4 tb.toNatClampNeg 0 0 (Nat.zero_add _) (lp_zero _ _).symm _ _ _ hP hD hS (lv_sub hl [2, 1, 0] rfl)
