def nx_X6_allBeards_4 (std : Nat → Int32) (i : Nat) (x4_1 : Int32) : Int32 := (x4_1 + (f_X4_beardsOf std (nI i)))
def x_X6_allBeards_4 (tp : Int32) (std : Nat → Int32) : Int32 := lp (fun iz z => nx_X6_allBeards_4 std iz z) 0 tp.toNatClampNeg
def f_X6_allBeards (tp : Int32) (std : Nat → Int32) : Int32 := (x_X6_allBeards_4 tp std)
abbrev rm_X6_allBeards : Room := { frames := 3, cells := 0, slots := 0, locals := 66 }
set_option maxRecDepth 100000 in
set_option maxHeartbeats 4000000 in
theorem k_X6_allBeards (l : Launch) (D : va_G) (cI cZ : ClassId) (adK adV : Nat → Nat) (q : Nat → Nat) (lat : Int32) (und : Int32) (kpl : Int32) (len : Int32) (ncl : Int32) (spe : Int32) (sru : Int32) (sbe : Int32) (sen : Int32) (lets : Nat → Int32) (wrds : Nat → Int32) (nums : Nat → Int32) (tb : Int32) (tp : Int32) (tr : Int32) (knd : Nat → Int32) (sec : Nat → Int32) (brd : Nat → Int32) (rms : Nat → Int32) (std : Nat → Int32) (sn : Int32) (ss : Nat → Int32) (sb : Nat → Int32) (sp : Nat → Int32) (past : Nat → Int32) (kept : Nat → Int32) : CI l D (kTy cI cZ) (kG adK adV) yX6_allBeards (.code yX6_allBeards cX6_allBeards 3 (some .int) :: wsL_law) rm_X6_allBeards [.ref (q 0)] (wC cI q lat und kpl len ncl spe sru sbe sen lets wrds nums tb tp tr knd sec brd rms std sn ss sb sp past kept) (wC cI q lat und kpl len ncl spe sru sbe sen lets wrds nums tb tp tr knd sec brd rms std sn ss sb sp past kept) (f_X6_allBeards tp std) := by
  refine CI.of (cc := cX6_allBeards) (maxL := 3) (ty := .int) (by decide) rfl (Nat.le_of_ble_eq_true rfl) rfl ?_
  intro p e s m args below meth c A Q ls hx hb hml hts0 hown hA hP hK hD hE hl hret
  have hts : ∀ w ∈ wsL_law, w.before args s = true := fun w h => hts0 w (List.mem_cons_of_mem _ h)
  clear hts0
  have hown : s.vm.findClass RX6 = some m.cls := hown
  have hl : lv_has ls 3 [(0, .ref (q 0))] := hl
  have hS : va_S A s.heap s.heap [] := va_S.rf
  revert hP hS
  suffices hgo : ∀ (H : Heap) (locs : List Loc), va_P D vwCl (wC cI q lat und kpl len ncl spe sru sbe sen lets wrds nums tb tp tr knd sec brd rms std sn ss sb sp past kept) H → va_S A s.heap H locs → W p l e rm_X6_allBeards s m args below meth c H locs 0 0 Q (F0 m 0 ls []) from fun a b => hgo _ _ a b
  intro H locs hP hS
  refine lv_iconst (v := 0) hx hb dX6_allBeards_0 (by decide) ?_
  refine lv_istore_n (lv' := [(1, .int 0), (0, .ref (q 0))]) hx hb dX6_allBeards_1 rfl hl (by decide) rfl (fun ls hl => ?_)
  refine lv_iconst (v := 0) hx hb dX6_allBeards_2 (by decide) ?_
  refine lv_istore_n (lv' := [(2, .int 0), (1, .int 0), (0, .ref (q 0))]) hx hb dX6_allBeards_3 rfl hl (by decide) rfl (fun ls hl => ?_)
  have lp4 : ∀ (k4 i : Nat) (x4_1 : Int32), i + k4 = tp.toNatClampNeg → x4_1 = lp (fun iz z => nx_X6_allBeards_4 std iz z) 0 i → ∀ (H : Heap) (locs : List Loc) (ls : Array Slot), va_P D vwCl (wC cI q lat und kpl len ncl spe sru sbe sen lets wrds nums tb tp tr knd sec brd rms std sn ss sb sp past kept) H → va_D A (wC cI q lat und kpl len ncl spe sru sbe sen lets wrds nums tb tp tr knd sec brd rms std sn ss sb sp past kept) → va_S A s.heap H locs → lv_has ls 3 [(0, .ref (q 0)), (1, .int x4_1), (2, .int (nI i))] → W p l e rm_X6_allBeards s m args below meth c H locs 0 0 Q (F0 m 4 ls []) := by
    intro k4
    induction k4 with
    | zero =>
      intro i x4_1 hi4 ea4 H locs ls hP hD hS hl
      have hi4 : tp.toNatClampNeg = i := by omega
      subst hi4
      have ea4 : x4_1 = (x_X6_allBeards_4 tp std) := ea4
      subst ea4
      refine lv_iload_n hx hb dX6_allBeards_4 rfl (lv_at hl 2 rfl) ?_
      refine lv_aload_n hx hb dX6_allBeards_5 rfl (lv_at hl 0 rfl) ?_
      refine va_get (D := D) (ci := 6) (v := .ref (q 8)) (C := RX6) (T := TX6) (N := 9) hx hb hts inlX6 hown hK hP 0 rfl rfl 1 (by decide) (kw hts kin_1 19 rfl) (fun _ h9 => h9) rfl dX6_allBeards_6 ?_
      refine va_get (D := D) (ci := 5) (v := .int tp) (C := RX5) (T := TX5) (N := 7) hx hb hts inlX5 hown hK hP 8 rfl rfl 1 (by decide) (kw hts kin_7 1 rfl) (fun _ h9 => h9) rfl dX6_allBeards_9 ?_
      refine lv_icmp_ge (tgt := 32) hx hb dX6_allBeards_12 (by decide) (fun _ => ?_) (fun c_12 => absurd (kle_clamp _) c_12)
      refine lv_iload_n hx hb dX6_allBeards_32 rfl (lv_at hl 1 rfl) ?_
      have hf : (f_X6_allBeards tp std) = (x_X6_allBeards_4 tp std) := rfl
      rw [hf] at hret
      exact hret _ _ _ _ hP hS dX6_allBeards_33
    | succ k4 ih4 =>
      intro i x4_1 hi4 ea4 H locs ls hP hD hS hl
      have hlt4 : i < tp.toNatClampNeg := by omega
      refine lv_iload_n hx hb dX6_allBeards_4 rfl (lv_at hl 2 rfl) ?_
      refine lv_aload_n hx hb dX6_allBeards_5 rfl (lv_at hl 0 rfl) ?_
      refine va_get (D := D) (ci := 6) (v := .ref (q 8)) (C := RX6) (T := TX6) (N := 9) hx hb hts inlX6 hown hK hP 0 rfl rfl 1 (by decide) (kw hts kin_1 19 rfl) (fun _ h9 => h9) rfl dX6_allBeards_6 ?_
      refine va_get (D := D) (ci := 5) (v := .int tp) (C := RX5) (T := TX5) (N := 7) hx hb hts inlX5 hown hK hP 8 rfl rfl 1 (by decide) (kw hts kin_7 1 rfl) (fun _ h9 => h9) rfl dX6_allBeards_9 ?_
      refine lv_icmp_ge (tgt := 32) hx hb dX6_allBeards_12 (by decide) (fun c_12 => absurd c_12 (klt_clamp hlt4)) (fun _ => ?_)
      refine lv_iload_n hx hb dX6_allBeards_15 rfl (lv_at hl 1 rfl) ?_
      refine lv_aload_n hx hb dX6_allBeards_16 rfl (lv_at hl 0 rfl) ?_
      refine va_get (D := D) (ci := 6) (v := .ref (q 17)) (C := RX6) (T := TX6) (N := 9) hx hb hts inlX6 hown hK hP 0 rfl rfl 2 (by decide) (kw hts kin_1 23 rfl) (fun _ h9 => h9) rfl dX6_allBeards_17 ?_
      refine lv_iload_n hx hb dX6_allBeards_20 rfl (lv_at hl 2 rfl) ?_
      refine kvi (As := [.int (nI i)]) (rest := [.int x4_1]) (q0 := 0) (ci := 4) ⟨hx, hb, hml, hown, hts⟩ hP hK hD hS hA hE (k_X4_beardsOf l D cI cZ adK adV q std (nI i)) (kcv hts kM_X4_beardsOf (kin_17 _ (List.mem_of_getElem? (i := 22) rfl)) ⟨rfl, rfl⟩ ⟨Nat.le_of_ble_eq_true rfl, Nat.le_of_ble_eq_true rfl⟩) kBl_G kOk_G (wC cI q lat und kpl len ncl spe sru sbe sen lets wrds nums tb tp tr knd sec brd rms std sn ss sb sp past kept) (cut_c_std cI q lat und kpl len ncl spe sru sbe sen lets wrds nums tb tp tr knd sec brd rms std sn ss sb sp past kept std).1 (cut_c_std cI q lat und kpl len ncl spe sru sbe sen lets wrds nums tb tp tr knd sec brd rms std sn ss sb sp past kept std).2 rfl rfl rfl rfl hl.1 rfl (Nat.le_of_ble_eq_true rfl) dX6_allBeards_21 (fun H locs hP hD hS => ?_)
      refine lv_iadd hx hb dX6_allBeards_24 ?_
      refine lv_istore_n (lv' := [(1, .int (x4_1 + (f_X4_beardsOf std (nI i)))), (0, .ref (q 0)), (2, .int (nI i))]) hx hb dX6_allBeards_25 rfl hl (by decide) rfl (fun ls hl => ?_)
      refine lv_iinc (v := (nI (i + 1))) (lv' := [(2, .int (nI (i + 1))), (1, .int (x4_1 + (f_X4_beardsOf std (nI i)))), (0, .ref (q 0))]) hx hb dX6_allBeards_26 hl (k := 2) rfl (nI_1 i) (by decide) rfl (fun ls hl => ?_)
      refine lv_goto (tgt := 4) hx hb dX6_allBeards_29 (by decide) ?_
      have hb4 : nx_X6_allBeards_4 std i x4_1 = (x4_1 + (f_X4_beardsOf std (nI i))) := rfl
      have hs4 : (lp (fun iz z => nx_X6_allBeards_4 std iz z) 0 (i + 1) : Int32) = nx_X6_allBeards_4 std i (lp (fun iz z => nx_X6_allBeards_4 std iz z) 0 i : Int32) := lp_succ _ _ _
      rw [← ea4] at hs4
      exact ih4 (i + 1) (x4_1 + (f_X4_beardsOf std (nI i))) (by omega) (hb4.symm.trans hs4.symm) _ _ _ hP hD hS (lv_sub hl [2, 1, 0] rfl)
  exact lp4 tp.toNatClampNeg 0 0 (Nat.zero_add _) (lp_zero _ _).symm _ _ _ hP hD hS (lv_sub hl [2, 1, 0] rfl)
