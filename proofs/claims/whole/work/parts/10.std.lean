def f_X4_date (std : Nat → Int32) : Int32 := (f_X0_at 85 std 0)
abbrev rm_X4_date : Room := { frames := 1, cells := 0, slots := 0, locals := 21 }
set_option maxRecDepth 100000 in
set_option maxHeartbeats 4000000 in
theorem k_X4_date (l : Launch) (D : va_G) (cI cZ : ClassId) (adK adV : Nat → Nat) (q : Nat → Nat) (std : Nat → Int32) : CI l D (kTy cI cZ) (kG adK adV) yX4_date (.code yX4_date cX4_date 1 (some .int) :: wsL_law) rm_X4_date [.ref (q 17)] (wStd cI q std) (wStd cI q std) (f_X4_date std) := by
  refine CI.of (cc := cX4_date) (maxL := 1) (ty := .int) (by decide) rfl (Nat.le_of_ble_eq_true rfl) rfl ?_
  intro p e s m args below meth c A Q ls hx hb hml hts0 hown hA hP hK hD hE hl hret
  have hts : ∀ w ∈ wsL_law, w.before args s = true := fun w h => hts0 w (List.mem_cons_of_mem _ h)
  clear hts0
  have hown : s.vm.findClass RX4 = some m.cls := hown
  have hl : lv_has ls 1 [(0, .ref (q 17))] := hl
  have hS : va_S A s.heap s.heap [] := va_S.rf
  revert hP hS
  suffices hgo : ∀ (H : Heap) (locs : List Loc), va_P D vwCl (wStd cI q std) H → va_S A s.heap H locs → W p l e rm_X4_date s m args below meth c H locs 0 0 Q (F0 m 0 ls []) from fun a b => hgo _ _ a b
  intro H locs hP hS
  refine lv_aload_n hx hb dX4_date_0 rfl (lv_at hl 0 rfl) ?_
  refine va_get (D := D) (ci := 4) (v := .ref (q 18)) (C := RX4) (T := TX4) (N := 1) hx hb hts inlX4 hown hK hP 0 rfl rfl 0 (by decide) (kw hts kin_4 0 rfl) (fun _ h9 => h9) rfl dX4_date_1 ?_
  refine lv_iconst (v := 0) hx hb dX4_date_4 (by decide) ?_
  refine kvi (As := [.int 0]) (rest := []) (isC := [1, 2]) (isR := [0]) (isN := [0, 1, 2]) (as := [q 18, q 19]) (wr := ([0] : List Nat).filterMap (fun i => (wStd cI q std)[i]?)) (q0 := 0) (ci := 0) ⟨hx, hb, hml, hown, hts⟩ hP hK hD hS hA hE (k_X0_at l D cI cZ adK adV (q 18) (q 19) 85 std 0 (by decide)) (kcv hts kM_X0_at (kin_17 _ (List.mem_of_getElem? (i := 21) rfl)) ⟨rfl, rfl⟩ ⟨Nat.le_of_ble_eq_true rfl, Nat.le_of_ble_eq_true rfl⟩) kBl_G kOk_G (wStd cI q std) ⟨rfl, rfl, ⟨rfl, rfl⟩, rfl⟩ (by decide +kernel) rfl rfl rfl rfl hl.1 rfl (Nat.le_of_ble_eq_true rfl) dX4_date_5 (fun H locs hP hD hS => ?_)
  have hf : (f_X4_date std) = (f_X0_at 85 std 0) := rfl
  rw [hf] at hret
  exact hret _ _ _ _ hP hS dX4_date_8
def f_X4_beardOn (std : Nat → Int32) (person : Int32) (strip : Int32) : Int32 := (f_X0_at 85 std ((1 + (person * 6)) + strip))
abbrev rm_X4_beardOn : Room := { frames := 1, cells := 0, slots := 0, locals := 21 }
set_option maxRecDepth 100000 in
set_option maxHeartbeats 4000000 in
theorem k_X4_beardOn (l : Launch) (D : va_G) (cI cZ : ClassId) (adK adV : Nat → Nat) (q : Nat → Nat) (std : Nat → Int32) (person : Int32) (strip : Int32) : CI l D (kTy cI cZ) (kG adK adV) yX4_beardOn (.code yX4_beardOn cX4_beardOn 3 (some .int) :: wsL_law) rm_X4_beardOn [.ref (q 17), .int person, .int strip] (wStd cI q std) (wStd cI q std) (f_X4_beardOn std person strip) := by
  refine CI.of (cc := cX4_beardOn) (maxL := 3) (ty := .int) (by decide) rfl (Nat.le_of_ble_eq_true rfl) rfl ?_
  intro p e s m args below meth c A Q ls hx hb hml hts0 hown hA hP hK hD hE hl hret
  have hts : ∀ w ∈ wsL_law, w.before args s = true := fun w h => hts0 w (List.mem_cons_of_mem _ h)
  clear hts0
  have hown : s.vm.findClass RX4 = some m.cls := hown
  have hl : lv_has ls 3 [(0, .ref (q 17)), (1, .int person), (2, .int strip)] := hl
  have hS : va_S A s.heap s.heap [] := va_S.rf
  revert hP hS
  suffices hgo : ∀ (H : Heap) (locs : List Loc), va_P D vwCl (wStd cI q std) H → va_S A s.heap H locs → W p l e rm_X4_beardOn s m args below meth c H locs 0 0 Q (F0 m 0 ls []) from fun a b => hgo _ _ a b
  intro H locs hP hS
  refine lv_aload_n hx hb dX4_beardOn_0 rfl (lv_at hl 0 rfl) ?_
  refine va_get (D := D) (ci := 4) (v := .ref (q 18)) (C := RX4) (T := TX4) (N := 1) hx hb hts inlX4 hown hK hP 0 rfl rfl 0 (by decide) (kw hts kin_4 0 rfl) (fun _ h9 => h9) rfl dX4_beardOn_1 ?_
  refine lv_iconst (v := 1) hx hb dX4_beardOn_4 (by decide) ?_
  refine lv_iload_n hx hb dX4_beardOn_5 rfl (lv_at hl 1 rfl) ?_
  refine lv_bipush (v := 6) hx hb dX4_beardOn_6 (by decide) ?_
  refine lv_imul hx hb dX4_beardOn_8 ?_
  refine lv_iadd hx hb dX4_beardOn_9 ?_
  refine lv_iload_n hx hb dX4_beardOn_10 rfl (lv_at hl 2 rfl) ?_
  refine lv_iadd hx hb dX4_beardOn_11 ?_
  refine kvi (As := [.int ((1 + (person * 6)) + strip)]) (rest := []) (isC := [1, 2]) (isR := [0]) (isN := [0, 1, 2]) (as := [q 18, q 19]) (wr := ([0] : List Nat).filterMap (fun i => (wStd cI q std)[i]?)) (q0 := 0) (ci := 0) ⟨hx, hb, hml, hown, hts⟩ hP hK hD hS hA hE (k_X0_at l D cI cZ adK adV (q 18) (q 19) 85 std ((1 + (person * 6)) + strip) (by decide)) (kcv hts kM_X0_at (kin_17 _ (List.mem_of_getElem? (i := 21) rfl)) ⟨rfl, rfl⟩ ⟨Nat.le_of_ble_eq_true rfl, Nat.le_of_ble_eq_true rfl⟩) kBl_G kOk_G (wStd cI q std) ⟨rfl, rfl, ⟨rfl, rfl⟩, rfl⟩ (by decide +kernel) rfl rfl rfl rfl hl.1 rfl (Nat.le_of_ble_eq_true rfl) dX4_beardOn_12 (fun H locs hP hD hS => ?_)
  have hf : (f_X4_beardOn std person strip) = (f_X0_at 85 std ((1 + (person * 6)) + strip)) := rfl
  rw [hf] at hret
  exact hret _ _ _ _ hP hS dX4_beardOn_15
def f_X4_setBeard (std : Nat → Int32) (person : Int32) (strip : Int32) (beard : Int32) : (Nat → Int32) := (f_X0_put 85 std ((1 + (person * 6)) + strip) beard)
abbrev rm_X4_setBeard : Room := { frames := 1, cells := 0, slots := 0, locals := 22 }
set_option maxRecDepth 100000 in
set_option maxHeartbeats 4000000 in
theorem k_X4_setBeard (l : Launch) (D : va_G) (cI cZ : ClassId) (adK adV : Nat → Nat) (q : Nat → Nat) (std : Nat → Int32) (person : Int32) (strip : Int32) (beard : Int32) : CV l D (kTy cI cZ) (kG adK adV) yX4_setBeard (.code yX4_setBeard cX4_setBeard 4 none :: wsL_law) rm_X4_setBeard [.ref (q 17), .int person, .int strip, .int beard] (wStd cI q std) (wStd cI q (f_X4_setBeard std person strip beard)) := by
  refine CV.of (cc := cX4_setBeard) (maxL := 4) (by decide) rfl (Nat.le_of_ble_eq_true rfl) ?_
  intro p e s m args below meth c A Q ls hx hb hml hts0 hown hA hP hK hD hE hl hret
  have hts : ∀ w ∈ wsL_law, w.before args s = true := fun w h => hts0 w (List.mem_cons_of_mem _ h)
  clear hts0
  have hown : s.vm.findClass RX4 = some m.cls := hown
  have hl : lv_has ls 4 [(0, .ref (q 17)), (1, .int person), (2, .int strip), (3, .int beard)] := hl
  have hS : va_S A s.heap s.heap [] := va_S.rf
  revert hP hS
  suffices hgo : ∀ (H : Heap) (locs : List Loc), va_P D vwCl (wStd cI q std) H → va_S A s.heap H locs → W p l e rm_X4_setBeard s m args below meth c H locs 0 0 Q (F0 m 0 ls []) from fun a b => hgo _ _ a b
  intro H locs hP hS
  refine lv_aload_n hx hb dX4_setBeard_0 rfl (lv_at hl 0 rfl) ?_
  refine va_get (D := D) (ci := 4) (v := .ref (q 18)) (C := RX4) (T := TX4) (N := 1) hx hb hts inlX4 hown hK hP 0 rfl rfl 0 (by decide) (kw hts kin_4 0 rfl) (fun _ h9 => h9) rfl dX4_setBeard_1 ?_
  refine lv_iconst (v := 1) hx hb dX4_setBeard_4 (by decide) ?_
  refine lv_iload_n hx hb dX4_setBeard_5 rfl (lv_at hl 1 rfl) ?_
  refine lv_bipush (v := 6) hx hb dX4_setBeard_6 (by decide) ?_
  refine lv_imul hx hb dX4_setBeard_8 ?_
  refine lv_iadd hx hb dX4_setBeard_9 ?_
  refine lv_iload_n hx hb dX4_setBeard_10 rfl (lv_at hl 2 rfl) ?_
  refine lv_iadd hx hb dX4_setBeard_11 ?_
  refine lv_iload_n hx hb dX4_setBeard_12 rfl (lv_at hl 3 rfl) ?_
  refine kvv (As := [.int ((1 + (person * 6)) + strip), .int beard]) (rest := []) (isC := [1, 2]) (isR := [0]) (isN := [0, 1, 2]) (as := [q 18, q 19]) (wr := ([0] : List Nat).filterMap (fun i => (wStd cI q std)[i]?)) (q0 := 0) (ci := 0) ⟨hx, hb, hml, hown, hts⟩ hP hK hD hS hA hE (k_X0_put l D cI cZ adK adV (q 18) (q 19) 85 std ((1 + (person * 6)) + strip) beard (by decide)) (kcv hts kM_X0_put (kin_16 _ (List.mem_of_getElem? (i := 9) rfl)) ⟨rfl, rfl⟩ ⟨Nat.le_of_ble_eq_true rfl, Nat.le_of_ble_eq_true rfl⟩) kBl_G kOk_G (wStd cI q (f_X0_put 85 std ((1 + (person * 6)) + strip) beard)) ⟨rfl, rfl, ⟨rfl, rfl⟩, rfl⟩ (by decide +kernel) rfl rfl rfl rfl hl.1 rfl (Nat.le_of_ble_eq_true rfl) dX4_setBeard_13 (fun H locs hP hD hS => ?_)
  have hf : (f_X4_setBeard std person strip beard) = (f_X0_put 85 std ((1 + (person * 6)) + strip) beard) := rfl
  rw [hf] at hret
  exact hret _ _ _ _ hP hS dX4_setBeard_16
def nx_X4_beardsOf_4 (std : Nat → Int32) (person : Int32) (i : Nat) (x4_2 : Int32) : Int32 := (x4_2 + (f_X4_beardOn std person (nI i)))
def x_X4_beardsOf_4 (std : Nat → Int32) (person : Int32) : Int32 := lp (fun iz z => nx_X4_beardsOf_4 std person iz z) 0 6
def f_X4_beardsOf (std : Nat → Int32) (person : Int32) : Int32 := (x_X4_beardsOf_4 std person)
abbrev rm_X4_beardsOf : Room := { frames := 2, cells := 0, slots := 0, locals := 43 }
set_option maxRecDepth 100000 in
set_option maxHeartbeats 4000000 in
theorem k_X4_beardsOf (l : Launch) (D : va_G) (cI cZ : ClassId) (adK adV : Nat → Nat) (q : Nat → Nat) (std : Nat → Int32) (person : Int32) : CI l D (kTy cI cZ) (kG adK adV) yX4_beardsOf (.code yX4_beardsOf cX4_beardsOf 4 (some .int) :: wsL_law) rm_X4_beardsOf [.ref (q 17), .int person] (wStd cI q std) (wStd cI q std) (f_X4_beardsOf std person) := by
  refine CI.of (cc := cX4_beardsOf) (maxL := 4) (ty := .int) (by decide) rfl (Nat.le_of_ble_eq_true rfl) rfl ?_
  intro p e s m args below meth c A Q ls hx hb hml hts0 hown hA hP hK hD hE hl hret
  have hts : ∀ w ∈ wsL_law, w.before args s = true := fun w h => hts0 w (List.mem_cons_of_mem _ h)
  clear hts0
  have hown : s.vm.findClass RX4 = some m.cls := hown
  have hl : lv_has ls 4 [(0, .ref (q 17)), (1, .int person)] := hl
  have hS : va_S A s.heap s.heap [] := va_S.rf
  revert hP hS
  suffices hgo : ∀ (H : Heap) (locs : List Loc), va_P D vwCl (wStd cI q std) H → va_S A s.heap H locs → W p l e rm_X4_beardsOf s m args below meth c H locs 0 0 Q (F0 m 0 ls []) from fun a b => hgo _ _ a b
  intro H locs hP hS
  refine lv_iconst (v := 0) hx hb dX4_beardsOf_0 (by decide) ?_
  refine lv_istore_n (lv' := [(2, .int 0), (0, .ref (q 17)), (1, .int person)]) hx hb dX4_beardsOf_1 rfl hl (by decide) rfl (fun ls hl => ?_)
  refine lv_iconst (v := 0) hx hb dX4_beardsOf_2 (by decide) ?_
  refine lv_istore_n (lv' := [(3, .int 0), (2, .int 0), (0, .ref (q 17)), (1, .int person)]) hx hb dX4_beardsOf_3 rfl hl (by decide) rfl (fun ls hl => ?_)
  have lp4 : ∀ (k4 i : Nat) (x4_2 : Int32), i + k4 = 6 → x4_2 = lp (fun iz z => nx_X4_beardsOf_4 std person iz z) 0 i → ∀ (H : Heap) (locs : List Loc) (ls : Array Slot), va_P D vwCl (wStd cI q std) H → va_D A (wStd cI q std) → va_S A s.heap H locs → lv_has ls 4 [(0, .ref (q 17)), (1, .int person), (2, .int x4_2), (3, .int (nI i))] → W p l e rm_X4_beardsOf s m args below meth c H locs 0 0 Q (F0 m 4 ls []) := by
    intro k4
    induction k4 with
    | zero =>
      intro i x4_2 hi4 ea4 H locs ls hP hD hS hl
      have hi4 : 6 = i := by omega
      subst hi4
      have ea4 : x4_2 = (x_X4_beardsOf_4 std person) := ea4
      subst ea4
      refine lv_iload_n hx hb dX4_beardsOf_4 rfl (lv_at hl 3 rfl) ?_
      refine lv_bipush (v := 6) hx hb dX4_beardsOf_5 (by decide) ?_
      refine lv_icmp_ge (tgt := 25) hx hb dX4_beardsOf_7 (by decide) (fun _ => ?_) (fun c_7 => absurd (nI_le (Nat.le_refl _) (by decide)) c_7)
      refine lv_iload_n hx hb dX4_beardsOf_25 rfl (lv_at hl 2 rfl) ?_
      have hf : (f_X4_beardsOf std person) = (x_X4_beardsOf_4 std person) := rfl
      rw [hf] at hret
      exact hret _ _ _ _ hP hS dX4_beardsOf_26
    | succ k4 ih4 =>
      intro i x4_2 hi4 ea4 H locs ls hP hD hS hl
      have hlt4 : i < 6 := by omega
      refine lv_iload_n hx hb dX4_beardsOf_4 rfl (lv_at hl 3 rfl) ?_
      refine lv_bipush (v := 6) hx hb dX4_beardsOf_5 (by decide) ?_
      refine lv_icmp_ge (tgt := 25) hx hb dX4_beardsOf_7 (by decide) (fun c_7 => absurd c_7 (nI_ge hlt4 (by decide))) (fun _ => ?_)
      refine lv_iload_n hx hb dX4_beardsOf_10 rfl (lv_at hl 2 rfl) ?_
      refine lv_aload_n hx hb dX4_beardsOf_11 rfl (lv_at hl 0 rfl) ?_
      refine lv_iload_n hx hb dX4_beardsOf_12 rfl (lv_at hl 1 rfl) ?_
      refine lv_iload_n hx hb dX4_beardsOf_13 rfl (lv_at hl 3 rfl) ?_
      refine kvi (As := [.int person, .int (nI i)]) (rest := [.int x4_2]) (isC := [0, 1, 2]) (isR := []) (isN := [0, 1, 2]) (as := [q 17, q 18, q 19]) (wr := ([] : List Nat).filterMap (fun i => (wStd cI q std)[i]?)) (q0 := 0) (ci := 4) ⟨hx, hb, hml, hown, hts⟩ hP hK hD hS hA hE (k_X4_beardOn l D cI cZ adK adV q std person (nI i)) (kcv hts kM_X4_beardOn (kin_17 _ (List.mem_of_getElem? (i := 17) rfl)) ⟨rfl, rfl⟩ ⟨Nat.le_of_ble_eq_true rfl, Nat.le_of_ble_eq_true rfl⟩) kBl_G kOk_G (wStd cI q std) ⟨rfl, rfl, ⟨rfl, rfl⟩, rfl⟩ (by decide +kernel) rfl rfl rfl rfl hl.1 rfl (Nat.le_of_ble_eq_true rfl) dX4_beardsOf_14 (fun H locs hP hD hS => ?_)
      refine lv_iadd hx hb dX4_beardsOf_17 ?_
      refine lv_istore_n (lv' := [(2, .int (x4_2 + (f_X4_beardOn std person (nI i)))), (0, .ref (q 17)), (1, .int person), (3, .int (nI i))]) hx hb dX4_beardsOf_18 rfl hl (by decide) rfl (fun ls hl => ?_)
      refine lv_iinc (v := (nI (i + 1))) (lv' := [(3, .int (nI (i + 1))), (2, .int (x4_2 + (f_X4_beardOn std person (nI i)))), (0, .ref (q 17)), (1, .int person)]) hx hb dX4_beardsOf_19 hl (k := 3) rfl (nI_1 i) (by decide) rfl (fun ls hl => ?_)
      refine lv_goto (tgt := 4) hx hb dX4_beardsOf_22 (by decide) ?_
      have hb4 : nx_X4_beardsOf_4 std person i x4_2 = (x4_2 + (f_X4_beardOn std person (nI i))) := rfl
      exact ih4 (i + 1) (x4_2 + (f_X4_beardOn std person (nI i))) (by omega) (hb4.symm.trans (congrArg ((fun iz z => nx_X4_beardsOf_4 std person iz z) i) ea4)) _ _ _ hP hD hS (lv_sub hl [2, 3, 1, 0] rfl)
  exact lp4 6 0 0 (Nat.zero_add _) rfl _ _ _ hP hD hS (lv_sub hl [2, 3, 1, 0] rfl)
def v_X4_bareStrips_16_0 (std : Nat → Int32) (person : Int32) (i : Nat) (x4_2 : Int32) : Int32 := if (f_X4_beardOn std person (nI i)) = 0 then (x4_2 ||| (1 <<< ((nI i) &&& 31))) else x4_2
def nx_X4_bareStrips_4 (std : Nat → Int32) (person : Int32) (i : Nat) (x4_2 : Int32) : Int32 := (v_X4_bareStrips_16_0 std person i x4_2)
def x_X4_bareStrips_4 (std : Nat → Int32) (person : Int32) : Int32 := lp (fun iz z => nx_X4_bareStrips_4 std person iz z) 0 6
def f_X4_bareStrips (std : Nat → Int32) (person : Int32) : Int32 := (x_X4_bareStrips_4 std person)
abbrev rm_X4_bareStrips : Room := { frames := 2, cells := 0, slots := 0, locals := 43 }
set_option maxRecDepth 100000 in
set_option maxHeartbeats 4000000 in
theorem k_X4_bareStrips (l : Launch) (D : va_G) (cI cZ : ClassId) (adK adV : Nat → Nat) (q : Nat → Nat) (std : Nat → Int32) (person : Int32) : CI l D (kTy cI cZ) (kG adK adV) yX4_bareStrips (.code yX4_bareStrips cX4_bareStrips 4 (some .int) :: wsL_law) rm_X4_bareStrips [.ref (q 17), .int person] (wStd cI q std) (wStd cI q std) (f_X4_bareStrips std person) := by
  refine CI.of (cc := cX4_bareStrips) (maxL := 4) (ty := .int) (by decide) rfl (Nat.le_of_ble_eq_true rfl) rfl ?_
  intro p e s m args below meth c A Q ls hx hb hml hts0 hown hA hP hK hD hE hl hret
  have hts : ∀ w ∈ wsL_law, w.before args s = true := fun w h => hts0 w (List.mem_cons_of_mem _ h)
  clear hts0
  have hown : s.vm.findClass RX4 = some m.cls := hown
  have hl : lv_has ls 4 [(0, .ref (q 17)), (1, .int person)] := hl
  have hS : va_S A s.heap s.heap [] := va_S.rf
  revert hP hS
  suffices hgo : ∀ (H : Heap) (locs : List Loc), va_P D vwCl (wStd cI q std) H → va_S A s.heap H locs → W p l e rm_X4_bareStrips s m args below meth c H locs 0 0 Q (F0 m 0 ls []) from fun a b => hgo _ _ a b
  intro H locs hP hS
  refine lv_iconst (v := 0) hx hb dX4_bareStrips_0 (by decide) ?_
  refine lv_istore_n (lv' := [(2, .int 0), (0, .ref (q 17)), (1, .int person)]) hx hb dX4_bareStrips_1 rfl hl (by decide) rfl (fun ls hl => ?_)
  refine lv_iconst (v := 0) hx hb dX4_bareStrips_2 (by decide) ?_
  refine lv_istore_n (lv' := [(3, .int 0), (2, .int 0), (0, .ref (q 17)), (1, .int person)]) hx hb dX4_bareStrips_3 rfl hl (by decide) rfl (fun ls hl => ?_)
  have lp4 : ∀ (k4 i : Nat) (x4_2 : Int32), i + k4 = 6 → x4_2 = lp (fun iz z => nx_X4_bareStrips_4 std person iz z) 0 i → ∀ (H : Heap) (locs : List Loc) (ls : Array Slot), va_P D vwCl (wStd cI q std) H → va_D A (wStd cI q std) → va_S A s.heap H locs → lv_has ls 4 [(0, .ref (q 17)), (1, .int person), (2, .int x4_2), (3, .int (nI i))] → W p l e rm_X4_bareStrips s m args below meth c H locs 0 0 Q (F0 m 4 ls []) := by
    intro k4
    induction k4 with
    | zero =>
      intro i x4_2 hi4 ea4 H locs ls hP hD hS hl
      have hi4 : 6 = i := by omega
      subst hi4
      have ea4 : x4_2 = (x_X4_bareStrips_4 std person) := ea4
      subst ea4
      refine lv_iload_n hx hb dX4_bareStrips_4 rfl (lv_at hl 3 rfl) ?_
      refine lv_bipush (v := 6) hx hb dX4_bareStrips_5 (by decide) ?_
      refine lv_icmp_ge (tgt := 31) hx hb dX4_bareStrips_7 (by decide) (fun _ => ?_) (fun c_7 => absurd (nI_le (Nat.le_refl _) (by decide)) c_7)
      refine lv_iload_n hx hb dX4_bareStrips_31 rfl (lv_at hl 2 rfl) ?_
      have hf : (f_X4_bareStrips std person) = (x_X4_bareStrips_4 std person) := rfl
      rw [hf] at hret
      exact hret _ _ _ _ hP hS dX4_bareStrips_32
    | succ k4 ih4 =>
      intro i x4_2 hi4 ea4 H locs ls hP hD hS hl
      have hlt4 : i < 6 := by omega
      refine lv_iload_n hx hb dX4_bareStrips_4 rfl (lv_at hl 3 rfl) ?_
      refine lv_bipush (v := 6) hx hb dX4_bareStrips_5 (by decide) ?_
      refine lv_icmp_ge (tgt := 31) hx hb dX4_bareStrips_7 (by decide) (fun c_7 => absurd c_7 (nI_ge hlt4 (by decide))) (fun _ => ?_)
      refine lv_aload_n hx hb dX4_bareStrips_10 rfl (lv_at hl 0 rfl) ?_
      refine lv_iload_n hx hb dX4_bareStrips_11 rfl (lv_at hl 1 rfl) ?_
      refine lv_iload_n hx hb dX4_bareStrips_12 rfl (lv_at hl 3 rfl) ?_
      refine kvi (As := [.int person, .int (nI i)]) (rest := []) (isC := [0, 1, 2]) (isR := []) (isN := [0, 1, 2]) (as := [q 17, q 18, q 19]) (wr := ([] : List Nat).filterMap (fun i => (wStd cI q std)[i]?)) (q0 := 0) (ci := 4) ⟨hx, hb, hml, hown, hts⟩ hP hK hD hS hA hE (k_X4_beardOn l D cI cZ adK adV q std person (nI i)) (kcv hts kM_X4_beardOn (kin_17 _ (List.mem_of_getElem? (i := 17) rfl)) ⟨rfl, rfl⟩ ⟨Nat.le_of_ble_eq_true rfl, Nat.le_of_ble_eq_true rfl⟩) kBl_G kOk_G (wStd cI q std) ⟨rfl, rfl, ⟨rfl, rfl⟩, rfl⟩ (by decide +kernel) rfl rfl rfl rfl hl.1 rfl (Nat.le_of_ble_eq_true rfl) dX4_bareStrips_13 (fun H locs hP hD hS => ?_)
      have J16 : ∀ (H : Heap) (locs : List Loc) (ls : Array Slot), va_P D vwCl (wStd cI q std) H → va_D A (wStd cI q std) → va_S A s.heap H locs → lv_has ls 4 [(0, .ref (q 17)), (1, .int person), (2, .int (v_X4_bareStrips_16_0 std person i x4_2)), (3, .int (nI i))] → W p l e rm_X4_bareStrips s m args below meth c H locs 0 0 Q (F0 m 25 ls []) := by
        intro H locs ls hP hD hS hl
        refine lv_iinc (v := (nI (i + 1))) (lv' := [(3, .int (nI (i + 1))), (0, .ref (q 17)), (1, .int person), (2, .int (v_X4_bareStrips_16_0 std person i x4_2))]) hx hb dX4_bareStrips_25 hl (k := 3) rfl (nI_1 i) (by decide) rfl (fun ls hl => ?_)
        refine lv_goto (tgt := 4) hx hb dX4_bareStrips_28 (by decide) ?_
        have hb4 : nx_X4_bareStrips_4 std person i x4_2 = (v_X4_bareStrips_16_0 std person i x4_2) := rfl
        exact ih4 (i + 1) (v_X4_bareStrips_16_0 std person i x4_2) (by omega) (hb4.symm.trans (congrArg ((fun iz z => nx_X4_bareStrips_4 std person iz z) i) ea4)) _ _ _ hP hD hS (lv_sub hl [1, 2, 3, 0] rfl)
      refine lv_if_ne (tgt := 25) hx hb dX4_bareStrips_16 (by decide) (fun c_16 => ?_) (fun c_16 => ?_)
      · skip
        rw [show (v_X4_bareStrips_16_0 std person i x4_2) = x4_2 from (if_neg c_16)] at J16
        exact J16 _ _ _ hP hD hS (lv_sub hl [0, 1, 2, 3] rfl)
      · skip
        refine lv_iload_n hx hb dX4_bareStrips_19 rfl (lv_at hl 2 rfl) ?_
        refine lv_iconst (v := 1) hx hb dX4_bareStrips_20 (by decide) ?_
        refine lv_iload_n hx hb dX4_bareStrips_21 rfl (lv_at hl 3 rfl) ?_
        refine lv_ishl hx hb dX4_bareStrips_22 ?_
        refine lv_ior hx hb dX4_bareStrips_23 ?_
        refine lv_istore_n (lv' := [(2, .int (x4_2 ||| (1 <<< ((nI i) &&& 31)))), (0, .ref (q 17)), (1, .int person), (3, .int (nI i))]) hx hb dX4_bareStrips_24 rfl hl (by decide) rfl (fun ls hl => ?_)
        rw [show (v_X4_bareStrips_16_0 std person i x4_2) = (x4_2 ||| (1 <<< ((nI i) &&& 31))) from (if_pos c_16)] at J16
        exact J16 _ _ _ hP hD hS (lv_sub hl [1, 2, 0, 3] rfl)
  exact lp4 6 0 0 (Nat.zero_add _) rfl _ _ _ hP hD hS (lv_sub hl [2, 3, 1, 0] rfl)
def f_X4_stripsKnown (std : Nat → Int32) (barber : Int32) (person : Int32) : Int32 := (f_X0_at 85 std ((37 + (barber * 6)) + person))
abbrev rm_X4_stripsKnown : Room := { frames := 1, cells := 0, slots := 0, locals := 21 }
set_option maxRecDepth 100000 in
set_option maxHeartbeats 4000000 in
theorem k_X4_stripsKnown (l : Launch) (D : va_G) (cI cZ : ClassId) (adK adV : Nat → Nat) (q : Nat → Nat) (std : Nat → Int32) (barber : Int32) (person : Int32) : CI l D (kTy cI cZ) (kG adK adV) yX4_stripsKnown (.code yX4_stripsKnown cX4_stripsKnown 3 (some .int) :: wsL_law) rm_X4_stripsKnown [.ref (q 17), .int barber, .int person] (wStd cI q std) (wStd cI q std) (f_X4_stripsKnown std barber person) := by
  refine CI.of (cc := cX4_stripsKnown) (maxL := 3) (ty := .int) (by decide) rfl (Nat.le_of_ble_eq_true rfl) rfl ?_
  intro p e s m args below meth c A Q ls hx hb hml hts0 hown hA hP hK hD hE hl hret
  have hts : ∀ w ∈ wsL_law, w.before args s = true := fun w h => hts0 w (List.mem_cons_of_mem _ h)
  clear hts0
  have hown : s.vm.findClass RX4 = some m.cls := hown
  have hl : lv_has ls 3 [(0, .ref (q 17)), (1, .int barber), (2, .int person)] := hl
  have hS : va_S A s.heap s.heap [] := va_S.rf
  revert hP hS
  suffices hgo : ∀ (H : Heap) (locs : List Loc), va_P D vwCl (wStd cI q std) H → va_S A s.heap H locs → W p l e rm_X4_stripsKnown s m args below meth c H locs 0 0 Q (F0 m 0 ls []) from fun a b => hgo _ _ a b
  intro H locs hP hS
  refine lv_aload_n hx hb dX4_stripsKnown_0 rfl (lv_at hl 0 rfl) ?_
  refine va_get (D := D) (ci := 4) (v := .ref (q 18)) (C := RX4) (T := TX4) (N := 1) hx hb hts inlX4 hown hK hP 0 rfl rfl 0 (by decide) (kw hts kin_4 0 rfl) (fun _ h9 => h9) rfl dX4_stripsKnown_1 ?_
  refine lv_bipush (v := 37) hx hb dX4_stripsKnown_4 (by decide) ?_
  refine lv_iload_n hx hb dX4_stripsKnown_6 rfl (lv_at hl 1 rfl) ?_
  refine lv_bipush (v := 6) hx hb dX4_stripsKnown_7 (by decide) ?_
  refine lv_imul hx hb dX4_stripsKnown_9 ?_
  refine lv_iadd hx hb dX4_stripsKnown_10 ?_
  refine lv_iload_n hx hb dX4_stripsKnown_11 rfl (lv_at hl 2 rfl) ?_
  refine lv_iadd hx hb dX4_stripsKnown_12 ?_
  refine kvi (As := [.int ((37 + (barber * 6)) + person)]) (rest := []) (isC := [1, 2]) (isR := [0]) (isN := [0, 1, 2]) (as := [q 18, q 19]) (wr := ([0] : List Nat).filterMap (fun i => (wStd cI q std)[i]?)) (q0 := 0) (ci := 0) ⟨hx, hb, hml, hown, hts⟩ hP hK hD hS hA hE (k_X0_at l D cI cZ adK adV (q 18) (q 19) 85 std ((37 + (barber * 6)) + person) (by decide)) (kcv hts kM_X0_at (kin_17 _ (List.mem_of_getElem? (i := 21) rfl)) ⟨rfl, rfl⟩ ⟨Nat.le_of_ble_eq_true rfl, Nat.le_of_ble_eq_true rfl⟩) kBl_G kOk_G (wStd cI q std) ⟨rfl, rfl, ⟨rfl, rfl⟩, rfl⟩ (by decide +kernel) rfl rfl rfl rfl hl.1 rfl (Nat.le_of_ble_eq_true rfl) dX4_stripsKnown_13 (fun H locs hP hD hS => ?_)
  have hf : (f_X4_stripsKnown std barber person) = (f_X0_at 85 std ((37 + (barber * 6)) + person)) := rfl
  rw [hf] at hret
  exact hret _ _ _ _ hP hS dX4_stripsKnown_16
def f_X4_partsKnown (std : Nat → Int32) (barber : Int32) (person : Int32) : Int32 := (f_X0_at 85 std ((61 + (barber * 6)) + person))
abbrev rm_X4_partsKnown : Room := { frames := 1, cells := 0, slots := 0, locals := 21 }
set_option maxRecDepth 100000 in
set_option maxHeartbeats 4000000 in
theorem k_X4_partsKnown (l : Launch) (D : va_G) (cI cZ : ClassId) (adK adV : Nat → Nat) (q : Nat → Nat) (std : Nat → Int32) (barber : Int32) (person : Int32) : CI l D (kTy cI cZ) (kG adK adV) yX4_partsKnown (.code yX4_partsKnown cX4_partsKnown 3 (some .int) :: wsL_law) rm_X4_partsKnown [.ref (q 17), .int barber, .int person] (wStd cI q std) (wStd cI q std) (f_X4_partsKnown std barber person) := by
  refine CI.of (cc := cX4_partsKnown) (maxL := 3) (ty := .int) (by decide) rfl (Nat.le_of_ble_eq_true rfl) rfl ?_
  intro p e s m args below meth c A Q ls hx hb hml hts0 hown hA hP hK hD hE hl hret
  have hts : ∀ w ∈ wsL_law, w.before args s = true := fun w h => hts0 w (List.mem_cons_of_mem _ h)
  clear hts0
  have hown : s.vm.findClass RX4 = some m.cls := hown
  have hl : lv_has ls 3 [(0, .ref (q 17)), (1, .int barber), (2, .int person)] := hl
  have hS : va_S A s.heap s.heap [] := va_S.rf
  revert hP hS
  suffices hgo : ∀ (H : Heap) (locs : List Loc), va_P D vwCl (wStd cI q std) H → va_S A s.heap H locs → W p l e rm_X4_partsKnown s m args below meth c H locs 0 0 Q (F0 m 0 ls []) from fun a b => hgo _ _ a b
  intro H locs hP hS
  refine lv_aload_n hx hb dX4_partsKnown_0 rfl (lv_at hl 0 rfl) ?_
  refine va_get (D := D) (ci := 4) (v := .ref (q 18)) (C := RX4) (T := TX4) (N := 1) hx hb hts inlX4 hown hK hP 0 rfl rfl 0 (by decide) (kw hts kin_4 0 rfl) (fun _ h9 => h9) rfl dX4_partsKnown_1 ?_
  refine lv_bipush (v := 61) hx hb dX4_partsKnown_4 (by decide) ?_
  refine lv_iload_n hx hb dX4_partsKnown_6 rfl (lv_at hl 1 rfl) ?_
  refine lv_bipush (v := 6) hx hb dX4_partsKnown_7 (by decide) ?_
  refine lv_imul hx hb dX4_partsKnown_9 ?_
  refine lv_iadd hx hb dX4_partsKnown_10 ?_
  refine lv_iload_n hx hb dX4_partsKnown_11 rfl (lv_at hl 2 rfl) ?_
  refine lv_iadd hx hb dX4_partsKnown_12 ?_
  refine kvi (As := [.int ((61 + (barber * 6)) + person)]) (rest := []) (isC := [1, 2]) (isR := [0]) (isN := [0, 1, 2]) (as := [q 18, q 19]) (wr := ([0] : List Nat).filterMap (fun i => (wStd cI q std)[i]?)) (q0 := 0) (ci := 0) ⟨hx, hb, hml, hown, hts⟩ hP hK hD hS hA hE (k_X0_at l D cI cZ adK adV (q 18) (q 19) 85 std ((61 + (barber * 6)) + person) (by decide)) (kcv hts kM_X0_at (kin_17 _ (List.mem_of_getElem? (i := 21) rfl)) ⟨rfl, rfl⟩ ⟨Nat.le_of_ble_eq_true rfl, Nat.le_of_ble_eq_true rfl⟩) kBl_G kOk_G (wStd cI q std) ⟨rfl, rfl, ⟨rfl, rfl⟩, rfl⟩ (by decide +kernel) rfl rfl rfl rfl hl.1 rfl (Nat.le_of_ble_eq_true rfl) dX4_partsKnown_13 (fun H locs hP hD hS => ?_)
  have hf : (f_X4_partsKnown std barber person) = (f_X0_at 85 std ((61 + (barber * 6)) + person)) := rfl
  rw [hf] at hret
  exact hret _ _ _ _ hP hS dX4_partsKnown_16
def f_X4_setKnown (std : Nat → Int32) (barber : Int32) (person : Int32) (strips : Int32) (parts_ : Int32) : (Nat → Int32) := (f_X0_put 85 (f_X0_put 85 std ((37 + (barber * 6)) + person) strips) ((61 + (barber * 6)) + person) parts_)
abbrev rm_X4_setKnown : Room := { frames := 1, cells := 0, slots := 0, locals := 22 }
set_option maxRecDepth 100000 in
set_option maxHeartbeats 4000000 in
theorem k_X4_setKnown (l : Launch) (D : va_G) (cI cZ : ClassId) (adK adV : Nat → Nat) (q : Nat → Nat) (std : Nat → Int32) (barber : Int32) (person : Int32) (strips : Int32) (parts_ : Int32) : CV l D (kTy cI cZ) (kG adK adV) yX4_setKnown (.code yX4_setKnown cX4_setKnown 5 none :: wsL_law) rm_X4_setKnown [.ref (q 17), .int barber, .int person, .int strips, .int parts_] (wStd cI q std) (wStd cI q (f_X4_setKnown std barber person strips parts_)) := by
  refine CV.of (cc := cX4_setKnown) (maxL := 5) (by decide) rfl (Nat.le_of_ble_eq_true rfl) ?_
  intro p e s m args below meth c A Q ls hx hb hml hts0 hown hA hP hK hD hE hl hret
  have hts : ∀ w ∈ wsL_law, w.before args s = true := fun w h => hts0 w (List.mem_cons_of_mem _ h)
  clear hts0
  have hown : s.vm.findClass RX4 = some m.cls := hown
  have hl : lv_has ls 5 [(0, .ref (q 17)), (1, .int barber), (2, .int person), (3, .int strips), (4, .int parts_)] := hl
  have hS : va_S A s.heap s.heap [] := va_S.rf
  revert hP hS
  suffices hgo : ∀ (H : Heap) (locs : List Loc), va_P D vwCl (wStd cI q std) H → va_S A s.heap H locs → W p l e rm_X4_setKnown s m args below meth c H locs 0 0 Q (F0 m 0 ls []) from fun a b => hgo _ _ a b
  intro H locs hP hS
  refine lv_aload_n hx hb dX4_setKnown_0 rfl (lv_at hl 0 rfl) ?_
  refine va_get (D := D) (ci := 4) (v := .ref (q 18)) (C := RX4) (T := TX4) (N := 1) hx hb hts inlX4 hown hK hP 0 rfl rfl 0 (by decide) (kw hts kin_4 0 rfl) (fun _ h9 => h9) rfl dX4_setKnown_1 ?_
  refine lv_bipush (v := 37) hx hb dX4_setKnown_4 (by decide) ?_
  refine lv_iload_n hx hb dX4_setKnown_6 rfl (lv_at hl 1 rfl) ?_
  refine lv_bipush (v := 6) hx hb dX4_setKnown_7 (by decide) ?_
  refine lv_imul hx hb dX4_setKnown_9 ?_
  refine lv_iadd hx hb dX4_setKnown_10 ?_
  refine lv_iload_n hx hb dX4_setKnown_11 rfl (lv_at hl 2 rfl) ?_
  refine lv_iadd hx hb dX4_setKnown_12 ?_
  refine lv_iload_n hx hb dX4_setKnown_13 rfl (lv_at hl 3 rfl) ?_
  refine kvv (As := [.int ((37 + (barber * 6)) + person), .int strips]) (rest := []) (isC := [1, 2]) (isR := [0]) (isN := [0, 1, 2]) (as := [q 18, q 19]) (wr := ([0] : List Nat).filterMap (fun i => (wStd cI q std)[i]?)) (q0 := 0) (ci := 0) ⟨hx, hb, hml, hown, hts⟩ hP hK hD hS hA hE (k_X0_put l D cI cZ adK adV (q 18) (q 19) 85 std ((37 + (barber * 6)) + person) strips (by decide)) (kcv hts kM_X0_put (kin_16 _ (List.mem_of_getElem? (i := 9) rfl)) ⟨rfl, rfl⟩ ⟨Nat.le_of_ble_eq_true rfl, Nat.le_of_ble_eq_true rfl⟩) kBl_G kOk_G (wStd cI q (f_X0_put 85 std ((37 + (barber * 6)) + person) strips)) ⟨rfl, rfl, ⟨rfl, rfl⟩, rfl⟩ (by decide +kernel) rfl rfl rfl rfl hl.1 rfl (Nat.le_of_ble_eq_true rfl) dX4_setKnown_14 (fun H locs hP hD hS => ?_)
  refine lv_aload_n hx hb dX4_setKnown_17 rfl (lv_at hl 0 rfl) ?_
  refine va_get (D := D) (ci := 4) (v := .ref (q 18)) (C := RX4) (T := TX4) (N := 1) hx hb hts inlX4 hown hK hP 0 rfl rfl 0 (by decide) (kw hts kin_4 0 rfl) (fun _ h9 => h9) rfl dX4_setKnown_18 ?_
  refine lv_bipush (v := 61) hx hb dX4_setKnown_21 (by decide) ?_
  refine lv_iload_n hx hb dX4_setKnown_23 rfl (lv_at hl 1 rfl) ?_
  refine lv_bipush (v := 6) hx hb dX4_setKnown_24 (by decide) ?_
  refine lv_imul hx hb dX4_setKnown_26 ?_
  refine lv_iadd hx hb dX4_setKnown_27 ?_
  refine lv_iload_n hx hb dX4_setKnown_28 rfl (lv_at hl 2 rfl) ?_
  refine lv_iadd hx hb dX4_setKnown_29 ?_
  refine lv_iload hx hb dX4_setKnown_30 (lv_at hl 4 rfl) ?_
  refine kvv (As := [.int ((61 + (barber * 6)) + person), .int parts_]) (rest := []) (isC := [1, 2]) (isR := [0]) (isN := [0, 1, 2]) (as := [q 18, q 19]) (wr := ([0] : List Nat).filterMap (fun i => (wStd cI q (f_X0_put 85 std ((37 + (barber * 6)) + person) strips))[i]?)) (q0 := 0) (ci := 0) ⟨hx, hb, hml, hown, hts⟩ hP hK hD hS hA hE (k_X0_put l D cI cZ adK adV (q 18) (q 19) 85 (f_X0_put 85 std ((37 + (barber * 6)) + person) strips) ((61 + (barber * 6)) + person) parts_ (by decide)) (kcv hts kM_X0_put (kin_16 _ (List.mem_of_getElem? (i := 9) rfl)) ⟨rfl, rfl⟩ ⟨Nat.le_of_ble_eq_true rfl, Nat.le_of_ble_eq_true rfl⟩) kBl_G kOk_G (wStd cI q (f_X0_put 85 (f_X0_put 85 std ((37 + (barber * 6)) + person) strips) ((61 + (barber * 6)) + person) parts_)) ⟨rfl, rfl, ⟨rfl, rfl⟩, rfl⟩ (by decide +kernel) rfl rfl rfl rfl hl.1 rfl (Nat.le_of_ble_eq_true rfl) dX4_setKnown_32 (fun H locs hP hD hS => ?_)
  have hf : (f_X4_setKnown std barber person strips parts_) = (f_X0_put 85 (f_X0_put 85 std ((37 + (barber * 6)) + person) strips) ((61 + (barber * 6)) + person) parts_) := rfl
  rw [hf] at hret
  exact hret _ _ _ _ hP hS dX4_setKnown_35
def f_X4_learn (std : Nat → Int32) (barber : Int32) (person : Int32) (strips : Int32) (parts_ : Int32) : (Nat → Int32) := (f_X4_setKnown std barber person ((f_X4_stripsKnown std barber person) ||| strips) (f_X6_replaced (f_X4_partsKnown std barber person) strips parts_))
abbrev rm_X4_learn : Room := { frames := 2, cells := 0, slots := 0, locals := 46 }
set_option maxRecDepth 100000 in
set_option maxHeartbeats 4000000 in
theorem k_X4_learn (l : Launch) (D : va_G) (cI cZ : ClassId) (adK adV : Nat → Nat) (q : Nat → Nat) (std : Nat → Int32) (barber : Int32) (person : Int32) (strips : Int32) (parts_ : Int32) : CV l D (kTy cI cZ) (kG adK adV) yX4_learn (.code yX4_learn cX4_learn 5 none :: wsL_law) rm_X4_learn [.ref (q 17), .int barber, .int person, .int strips, .int parts_] (wStd cI q std) (wStd cI q (f_X4_learn std barber person strips parts_)) := by
  refine CV.of (cc := cX4_learn) (maxL := 5) (by decide) rfl (Nat.le_of_ble_eq_true rfl) ?_
  intro p e s m args below meth c A Q ls hx hb hml hts0 hown hA hP hK hD hE hl hret
  have hts : ∀ w ∈ wsL_law, w.before args s = true := fun w h => hts0 w (List.mem_cons_of_mem _ h)
  clear hts0
  have hown : s.vm.findClass RX4 = some m.cls := hown
  have hl : lv_has ls 5 [(0, .ref (q 17)), (1, .int barber), (2, .int person), (3, .int strips), (4, .int parts_)] := hl
  have hS : va_S A s.heap s.heap [] := va_S.rf
  revert hP hS
  suffices hgo : ∀ (H : Heap) (locs : List Loc), va_P D vwCl (wStd cI q std) H → va_S A s.heap H locs → W p l e rm_X4_learn s m args below meth c H locs 0 0 Q (F0 m 0 ls []) from fun a b => hgo _ _ a b
  intro H locs hP hS
  refine lv_aload_n hx hb dX4_learn_0 rfl (lv_at hl 0 rfl) ?_
  refine lv_iload_n hx hb dX4_learn_1 rfl (lv_at hl 1 rfl) ?_
  refine lv_iload_n hx hb dX4_learn_2 rfl (lv_at hl 2 rfl) ?_
  refine lv_aload_n hx hb dX4_learn_3 rfl (lv_at hl 0 rfl) ?_
  refine lv_iload_n hx hb dX4_learn_4 rfl (lv_at hl 1 rfl) ?_
  refine lv_iload_n hx hb dX4_learn_5 rfl (lv_at hl 2 rfl) ?_
  refine kvi (As := [.int barber, .int person]) (rest := [.int person, .int barber, .ref (q 17)]) (isC := [0, 1, 2]) (isR := []) (isN := [0, 1, 2]) (as := [q 17, q 18, q 19]) (wr := ([] : List Nat).filterMap (fun i => (wStd cI q std)[i]?)) (q0 := 0) (ci := 4) ⟨hx, hb, hml, hown, hts⟩ hP hK hD hS hA hE (k_X4_stripsKnown l D cI cZ adK adV q std barber person) (kcv hts kM_X4_stripsKnown (kin_24 _ (List.mem_of_getElem? (i := 2) rfl)) ⟨rfl, rfl⟩ ⟨Nat.le_of_ble_eq_true rfl, Nat.le_of_ble_eq_true rfl⟩) kBl_G kOk_G (wStd cI q std) ⟨rfl, rfl, ⟨rfl, rfl⟩, rfl⟩ (by decide +kernel) rfl rfl rfl rfl hl.1 rfl (Nat.le_of_ble_eq_true rfl) dX4_learn_6 (fun H locs hP hD hS => ?_)
  refine lv_iload_n hx hb dX4_learn_9 rfl (lv_at hl 3 rfl) ?_
  refine lv_ior hx hb dX4_learn_10 ?_
  refine lv_aload_n hx hb dX4_learn_11 rfl (lv_at hl 0 rfl) ?_
  refine lv_iload_n hx hb dX4_learn_12 rfl (lv_at hl 1 rfl) ?_
  refine lv_iload_n hx hb dX4_learn_13 rfl (lv_at hl 2 rfl) ?_
  refine kvi (As := [.int barber, .int person]) (rest := [.int ((f_X4_stripsKnown std barber person) ||| strips), .int person, .int barber, .ref (q 17)]) (isC := [0, 1, 2]) (isR := []) (isN := [0, 1, 2]) (as := [q 17, q 18, q 19]) (wr := ([] : List Nat).filterMap (fun i => (wStd cI q std)[i]?)) (q0 := 0) (ci := 4) ⟨hx, hb, hml, hown, hts⟩ hP hK hD hS hA hE (k_X4_partsKnown l D cI cZ adK adV q std barber person) (kcv hts kM_X4_partsKnown (kin_24 _ (List.mem_of_getElem? (i := 3) rfl)) ⟨rfl, rfl⟩ ⟨Nat.le_of_ble_eq_true rfl, Nat.le_of_ble_eq_true rfl⟩) kBl_G kOk_G (wStd cI q std) ⟨rfl, rfl, ⟨rfl, rfl⟩, rfl⟩ (by decide +kernel) rfl rfl rfl rfl hl.1 rfl (Nat.le_of_ble_eq_true rfl) dX4_learn_14 (fun H locs hP hD hS => ?_)
  refine lv_iload_n hx hb dX4_learn_17 rfl (lv_at hl 3 rfl) ?_
  refine lv_iload hx hb dX4_learn_18 (lv_at hl 4 rfl) ?_
  refine kni (As := [.int (f_X4_partsKnown std barber person), .int strips, .int parts_]) (rest := [.int ((f_X4_stripsKnown std barber person) ||| strips), .int person, .int barber, .ref (q 17)]) ⟨hx, hb, hml, hown, hts⟩ hP hK hD hS hA hE (k_X6_replaced l D cI cZ adK adV (f_X4_partsKnown std barber person) strips parts_) (kcn hts kM_X6_replaced hE.1.2.2 ⟨rfl, rfl⟩ ⟨Nat.le_of_ble_eq_true rfl, Nat.le_of_ble_eq_true rfl⟩) kBl_G kOk_G rfl hl.1 rfl (Nat.le_of_ble_eq_true rfl) dX4_learn_20 (fun H locs hP hD hS => ?_)
  refine kvv (As := [.int barber, .int person, .int ((f_X4_stripsKnown std barber person) ||| strips), .int (f_X6_replaced (f_X4_partsKnown std barber person) strips parts_)]) (rest := []) (isC := [0, 1, 2]) (isR := []) (isN := [0, 1, 2]) (as := [q 17, q 18, q 19]) (wr := ([] : List Nat).filterMap (fun i => (wStd cI q std)[i]?)) (q0 := 0) (ci := 4) ⟨hx, hb, hml, hown, hts⟩ hP hK hD hS hA hE (k_X4_setKnown l D cI cZ adK adV q std barber person ((f_X4_stripsKnown std barber person) ||| strips) (f_X6_replaced (f_X4_partsKnown std barber person) strips parts_)) (kcv hts kM_X4_setKnown (kin_24 _ (List.mem_of_getElem? (i := 6) rfl)) ⟨rfl, rfl⟩ ⟨Nat.le_of_ble_eq_true rfl, Nat.le_of_ble_eq_true rfl⟩) kBl_G kOk_G (wStd cI q (f_X4_setKnown std barber person ((f_X4_stripsKnown std barber person) ||| strips) (f_X6_replaced (f_X4_partsKnown std barber person) strips parts_))) ⟨rfl, rfl, ⟨rfl, rfl⟩, rfl⟩ (by decide +kernel) rfl rfl rfl rfl hl.1 rfl (Nat.le_of_ble_eq_true rfl) dX4_learn_23 (fun H locs hP hD hS => ?_)
  have hf : (f_X4_learn std barber person strips parts_) = (f_X4_setKnown std barber person ((f_X4_stripsKnown std barber person) ||| strips) (f_X6_replaced (f_X4_partsKnown std barber person) strips parts_)) := rfl
  rw [hf] at hret
  exact hret _ _ _ _ hP hS dX4_learn_26
def nx_X4_passDay_23 (i : Nat) (i1 : Nat) (y23_std : Nat → Int32) : (Nat → Int32) := (f_X4_setBeard y23_std (nI i) (nI i1) (if ((f_X4_beardOn y23_std (nI i) (nI i1)) + 1) < 9 then ((f_X4_beardOn y23_std (nI i) (nI i1)) + 1) else 9))
def x_X4_passDay_23 (i : Nat) (y16_std : Nat → Int32) : (Nat → Int32) := lp (fun iz z => nx_X4_passDay_23 i iz z) y16_std 6
def nx_X4_passDay_16 (i : Nat) (y16_std : Nat → Int32) : (Nat → Int32) := (x_X4_passDay_23 i y16_std)
def x_X4_passDay_16 (std : Nat → Int32) (people : Int32) : (Nat → Int32) := lp (fun iz z => nx_X4_passDay_16 iz z) (f_X0_put 85 std 0 ((f_X4_date std) + 1)) people.toNatClampNeg
def f_X4_passDay (std : Nat → Int32) (people : Int32) : (Nat → Int32) := (x_X4_passDay_16 std people)
abbrev rm_X4_passDay : Room := { frames := 2, cells := 0, slots := 0, locals := 45 }
set_option maxRecDepth 100000 in
set_option maxHeartbeats 4000000 in
theorem k_X4_passDay (l : Launch) (D : va_G) (cI cZ : ClassId) (adK adV : Nat → Nat) (q : Nat → Nat) (std : Nat → Int32) (people : Int32) : CV l D (kTy cI cZ) (kG adK adV) yX4_passDay (.code yX4_passDay cX4_passDay 4 none :: wsL_law) rm_X4_passDay [.ref (q 17), .int people] (wStd cI q std) (wStd cI q (f_X4_passDay std people)) := by
  refine CV.of (cc := cX4_passDay) (maxL := 4) (by decide) rfl (Nat.le_of_ble_eq_true rfl) ?_
  intro p e s m args below meth c A Q ls hx hb hml hts0 hown hA hP hK hD hE hl hret
  have hts : ∀ w ∈ wsL_law, w.before args s = true := fun w h => hts0 w (List.mem_cons_of_mem _ h)
  clear hts0
  have hown : s.vm.findClass RX4 = some m.cls := hown
  have hl : lv_has ls 4 [(0, .ref (q 17)), (1, .int people)] := hl
  have hS : va_S A s.heap s.heap [] := va_S.rf
  revert hP hS
  suffices hgo : ∀ (H : Heap) (locs : List Loc), va_P D vwCl (wStd cI q std) H → va_S A s.heap H locs → W p l e rm_X4_passDay s m args below meth c H locs 0 0 Q (F0 m 0 ls []) from fun a b => hgo _ _ a b
  intro H locs hP hS
  refine lv_aload_n hx hb dX4_passDay_0 rfl (lv_at hl 0 rfl) ?_
  refine va_get (D := D) (ci := 4) (v := .ref (q 18)) (C := RX4) (T := TX4) (N := 1) hx hb hts inlX4 hown hK hP 0 rfl rfl 0 (by decide) (kw hts kin_4 0 rfl) (fun _ h9 => h9) rfl dX4_passDay_1 ?_
  refine lv_iconst (v := 0) hx hb dX4_passDay_4 (by decide) ?_
  refine lv_aload_n hx hb dX4_passDay_5 rfl (lv_at hl 0 rfl) ?_
  refine kvi (As := []) (rest := [.int 0, .ref (q 18)]) (isC := [0, 1, 2]) (isR := []) (isN := [0, 1, 2]) (as := [q 17, q 18, q 19]) (wr := ([] : List Nat).filterMap (fun i => (wStd cI q std)[i]?)) (q0 := 0) (ci := 4) ⟨hx, hb, hml, hown, hts⟩ hP hK hD hS hA hE (k_X4_date l D cI cZ adK adV q std) (kcv hts kM_X4_date (kin_25 _ (List.mem_of_getElem? (i := 20) rfl)) ⟨rfl, rfl⟩ ⟨Nat.le_of_ble_eq_true rfl, Nat.le_of_ble_eq_true rfl⟩) kBl_G kOk_G (wStd cI q std) ⟨rfl, rfl, ⟨rfl, rfl⟩, rfl⟩ (by decide +kernel) rfl rfl rfl rfl hl.1 rfl (Nat.le_of_ble_eq_true rfl) dX4_passDay_6 (fun H locs hP hD hS => ?_)
  refine lv_iconst (v := 1) hx hb dX4_passDay_9 (by decide) ?_
  refine lv_iadd hx hb dX4_passDay_10 ?_
  refine kvv (As := [.int 0, .int ((f_X4_date std) + 1)]) (rest := []) (isC := [1, 2]) (isR := [0]) (isN := [0, 1, 2]) (as := [q 18, q 19]) (wr := ([0] : List Nat).filterMap (fun i => (wStd cI q std)[i]?)) (q0 := 0) (ci := 0) ⟨hx, hb, hml, hown, hts⟩ hP hK hD hS hA hE (k_X0_put l D cI cZ adK adV (q 18) (q 19) 85 std 0 ((f_X4_date std) + 1) (by decide)) (kcv hts kM_X0_put (kin_16 _ (List.mem_of_getElem? (i := 9) rfl)) ⟨rfl, rfl⟩ ⟨Nat.le_of_ble_eq_true rfl, Nat.le_of_ble_eq_true rfl⟩) kBl_G kOk_G (wStd cI q (f_X0_put 85 std 0 ((f_X4_date std) + 1))) ⟨rfl, rfl, ⟨rfl, rfl⟩, rfl⟩ (by decide +kernel) rfl rfl rfl rfl hl.1 rfl (Nat.le_of_ble_eq_true rfl) dX4_passDay_11 (fun H locs hP hD hS => ?_)
  refine lv_iconst (v := 0) hx hb dX4_passDay_14 (by decide) ?_
  refine lv_istore_n (lv' := [(2, .int 0), (0, .ref (q 17)), (1, .int people)]) hx hb dX4_passDay_15 rfl hl (by decide) rfl (fun ls hl => ?_)
  have lp16 : ∀ (k16 i : Nat) (y16_std : Nat → Int32), i + k16 = people.toNatClampNeg → y16_std = lp (fun iz z => nx_X4_passDay_16 iz z) (f_X0_put 85 std 0 ((f_X4_date std) + 1)) i → ∀ (H : Heap) (locs : List Loc) (ls : Array Slot), va_P D vwCl (wStd cI q y16_std) H → va_D A (wStd cI q y16_std) → va_S A s.heap H locs → lv_has ls 4 [(0, .ref (q 17)), (1, .int people), (2, .int (nI i))] → W p l e rm_X4_passDay s m args below meth c H locs 0 0 Q (F0 m 16 ls []) := by
    intro k16
    induction k16 with
    | zero =>
      intro i y16_std hi16 ea16 H locs ls hP hD hS hl
      have hi16 : people.toNatClampNeg = i := by omega
      subst hi16
      have ea16 : y16_std = (x_X4_passDay_16 std people) := ea16
      subst ea16
      refine lv_iload_n hx hb dX4_passDay_16 rfl (lv_at hl 2 rfl) ?_
      refine lv_iload_n hx hb dX4_passDay_17 rfl (lv_at hl 1 rfl) ?_
      refine lv_icmp_ge (tgt := 60) hx hb dX4_passDay_18 (by decide) (fun _ => ?_) (fun c_18 => absurd (kle_clamp _) c_18)
      have hf : (f_X4_passDay std people) = (x_X4_passDay_16 std people) := rfl
      rw [hf] at hret
      exact hret _ _ _ _ hP hS dX4_passDay_60
    | succ k16 ih16 =>
      intro i y16_std hi16 ea16 H locs ls hP hD hS hl
      have hlt16 : i < people.toNatClampNeg := by omega
      refine lv_iload_n hx hb dX4_passDay_16 rfl (lv_at hl 2 rfl) ?_
      refine lv_iload_n hx hb dX4_passDay_17 rfl (lv_at hl 1 rfl) ?_
      refine lv_icmp_ge (tgt := 60) hx hb dX4_passDay_18 (by decide) (fun c_18 => absurd c_18 (klt_clamp hlt16)) (fun _ => ?_)
      refine lv_iconst (v := 0) hx hb dX4_passDay_21 (by decide) ?_
      refine lv_istore_n (lv' := [(3, .int 0), (0, .ref (q 17)), (1, .int people), (2, .int (nI i))]) hx hb dX4_passDay_22 rfl hl (by decide) rfl (fun ls hl => ?_)
      have lp23 : ∀ (k23 i1 : Nat) (y23_std : Nat → Int32), i1 + k23 = 6 → y23_std = lp (fun iz z => nx_X4_passDay_23 i iz z) y16_std i1 → ∀ (H : Heap) (locs : List Loc) (ls : Array Slot), va_P D vwCl (wStd cI q y23_std) H → va_D A (wStd cI q y23_std) → va_S A s.heap H locs → lv_has ls 4 [(0, .ref (q 17)), (1, .int people), (2, .int (nI i)), (3, .int (nI i1))] → W p l e rm_X4_passDay s m args below meth c H locs 0 0 Q (F0 m 23 ls []) := by
        intro k23
        induction k23 with
        | zero =>
          intro i1 y23_std hi23 ea23 H locs ls hP hD hS hl
          have hi23 : 6 = i1 := by omega
          subst hi23
          have ea23 : y23_std = (x_X4_passDay_23 i y16_std) := ea23
          subst ea23
          refine lv_iload_n hx hb dX4_passDay_23 rfl (lv_at hl 3 rfl) ?_
          refine lv_bipush (v := 6) hx hb dX4_passDay_24 (by decide) ?_
          refine lv_icmp_ge (tgt := 54) hx hb dX4_passDay_26 (by decide) (fun _ => ?_) (fun c_26 => absurd (nI_le (Nat.le_refl _) (by decide)) c_26)
          refine lv_iinc (v := (nI (i + 1))) (lv' := [(2, .int (nI (i + 1))), (0, .ref (q 17)), (1, .int people), (3, .int (nI 6))]) hx hb dX4_passDay_54 hl (k := 2) rfl (nI_1 i) (by decide) rfl (fun ls hl => ?_)
          refine lv_goto (tgt := 16) hx hb dX4_passDay_57 (by decide) ?_
          have hb16 : nx_X4_passDay_16 i y16_std = (x_X4_passDay_23 i y16_std) := rfl
          exact ih16 (i + 1) (x_X4_passDay_23 i y16_std) (by omega) (hb16.symm.trans (congrArg ((fun iz z => nx_X4_passDay_16 iz z) i) ea16)) _ _ _ hP hD hS (lv_sub hl [1, 2, 0] rfl)
        | succ k23 ih23 =>
          intro i1 y23_std hi23 ea23 H locs ls hP hD hS hl
          have hlt23 : i1 < 6 := by omega
          refine lv_iload_n hx hb dX4_passDay_23 rfl (lv_at hl 3 rfl) ?_
          refine lv_bipush (v := 6) hx hb dX4_passDay_24 (by decide) ?_
          refine lv_icmp_ge (tgt := 54) hx hb dX4_passDay_26 (by decide) (fun c_26 => absurd c_26 (nI_ge hlt23 (by decide))) (fun _ => ?_)
          refine lv_aload_n hx hb dX4_passDay_29 rfl (lv_at hl 0 rfl) ?_
          refine lv_iload_n hx hb dX4_passDay_30 rfl (lv_at hl 2 rfl) ?_
          refine lv_iload_n hx hb dX4_passDay_31 rfl (lv_at hl 3 rfl) ?_
          refine lv_bipush (v := 9) hx hb dX4_passDay_32 (by decide) ?_
          refine lv_aload_n hx hb dX4_passDay_34 rfl (lv_at hl 0 rfl) ?_
          refine lv_iload_n hx hb dX4_passDay_35 rfl (lv_at hl 2 rfl) ?_
          refine lv_iload_n hx hb dX4_passDay_36 rfl (lv_at hl 3 rfl) ?_
          refine kvi (As := [.int (nI i), .int (nI i1)]) (rest := [.int 9, .int (nI i1), .int (nI i), .ref (q 17)]) (isC := [0, 1, 2]) (isR := []) (isN := [0, 1, 2]) (as := [q 17, q 18, q 19]) (wr := ([] : List Nat).filterMap (fun i => (wStd cI q y23_std)[i]?)) (q0 := 0) (ci := 4) ⟨hx, hb, hml, hown, hts⟩ hP hK hD hS hA hE (k_X4_beardOn l D cI cZ adK adV q y23_std (nI i) (nI i1)) (kcv hts kM_X4_beardOn (kin_17 _ (List.mem_of_getElem? (i := 17) rfl)) ⟨rfl, rfl⟩ ⟨Nat.le_of_ble_eq_true rfl, Nat.le_of_ble_eq_true rfl⟩) kBl_G kOk_G (wStd cI q y23_std) ⟨rfl, rfl, ⟨rfl, rfl⟩, rfl⟩ (by decide +kernel) rfl rfl rfl rfl hl.1 rfl (Nat.le_of_ble_eq_true rfl) dX4_passDay_37 (fun H locs hP hD hS => ?_)
          refine lv_iconst (v := 1) hx hb dX4_passDay_40 (by decide) ?_
          refine lv_iadd hx hb dX4_passDay_41 ?_
          refine va_mmin hx hb (hml.trans hl.1.symm) hown (kw hts kin_25 19 rfl) (kw hts kin_5 18 rfl) (kw hts kin_3 4 rfl) (kw hts kin_5 19 rfl) (Nat.le_of_ble_eq_true rfl) (Nat.le_of_ble_eq_true rfl) (Nat.zero_le _) (Nat.zero_le _) dX4_passDay_42 ?_
          refine kvv (As := [.int (nI i), .int (nI i1), .int (if ((f_X4_beardOn y23_std (nI i) (nI i1)) + 1) < 9 then ((f_X4_beardOn y23_std (nI i) (nI i1)) + 1) else 9)]) (rest := []) (isC := [0, 1, 2]) (isR := []) (isN := [0, 1, 2]) (as := [q 17, q 18, q 19]) (wr := ([] : List Nat).filterMap (fun i => (wStd cI q y23_std)[i]?)) (q0 := 0) (ci := 4) ⟨hx, hb, hml, hown, hts⟩ hP hK hD hS hA hE (k_X4_setBeard l D cI cZ adK adV q y23_std (nI i) (nI i1) (if ((f_X4_beardOn y23_std (nI i) (nI i1)) + 1) < 9 then ((f_X4_beardOn y23_std (nI i) (nI i1)) + 1) else 9)) (kcv hts kM_X4_setBeard (kin_16 _ (List.mem_of_getElem? (i := 5) rfl)) ⟨rfl, rfl⟩ ⟨Nat.le_of_ble_eq_true rfl, Nat.le_of_ble_eq_true rfl⟩) kBl_G kOk_G (wStd cI q (f_X4_setBeard y23_std (nI i) (nI i1) (if ((f_X4_beardOn y23_std (nI i) (nI i1)) + 1) < 9 then ((f_X4_beardOn y23_std (nI i) (nI i1)) + 1) else 9))) ⟨rfl, rfl, ⟨rfl, rfl⟩, rfl⟩ (by decide +kernel) rfl rfl rfl rfl hl.1 rfl (Nat.le_of_ble_eq_true rfl) dX4_passDay_45 (fun H locs hP hD hS => ?_)
          refine lv_iinc (v := (nI (i1 + 1))) (lv' := [(3, .int (nI (i1 + 1))), (0, .ref (q 17)), (1, .int people), (2, .int (nI i))]) hx hb dX4_passDay_48 hl (k := 3) rfl (nI_1 i1) (by decide) rfl (fun ls hl => ?_)
          refine lv_goto (tgt := 23) hx hb dX4_passDay_51 (by decide) ?_
          have hb23 : nx_X4_passDay_23 i i1 y23_std = (f_X4_setBeard y23_std (nI i) (nI i1) (if ((f_X4_beardOn y23_std (nI i) (nI i1)) + 1) < 9 then ((f_X4_beardOn y23_std (nI i) (nI i1)) + 1) else 9)) := rfl
          exact ih23 (i1 + 1) (f_X4_setBeard y23_std (nI i) (nI i1) (if ((f_X4_beardOn y23_std (nI i) (nI i1)) + 1) < 9 then ((f_X4_beardOn y23_std (nI i) (nI i1)) + 1) else 9)) (by omega) (hb23.symm.trans (congrArg ((fun iz z => nx_X4_passDay_23 i iz z) i1) ea23)) _ _ _ hP hD hS (lv_sub hl [1, 2, 3, 0] rfl)
      exact lp23 6 0 y16_std (Nat.zero_add _) rfl _ _ _ hP hD hS (lv_sub hl [1, 2, 3, 0] rfl)
  exact lp16 people.toNatClampNeg 0 (f_X0_put 85 std 0 ((f_X4_date std) + 1)) (Nat.zero_add _) rfl _ _ _ hP hD hS (lv_sub hl [1, 2, 0] rfl)
def nx_X4_startAfresh_19 (brd : Nat → Int32) (i : Nat) (i1 : Nat) (y19_std : Nat → Int32) : (Nat → Int32) := (f_X4_setBeard y19_std (nI i) (nI i1) (f_X5_toldBeard brd (nI i) (nI i1)))
def x_X4_startAfresh_19 (brd : Nat → Int32) (i : Nat) (y9_std : Nat → Int32) : (Nat → Int32) := lp (fun iz z => nx_X4_startAfresh_19 brd i iz z) y9_std 6
def nx_X4_startAfresh_9 (brd : Nat → Int32) (i : Nat) (y9_std : Nat → Int32) : (Nat → Int32) := (x_X4_startAfresh_19 brd i y9_std)
def x_X4_startAfresh_9 (std : Nat → Int32) (tp : Int32) (brd : Nat → Int32) : (Nat → Int32) := lp (fun iz z => nx_X4_startAfresh_9 brd iz z) (f_X0_zero 85 std) tp.toNatClampNeg
def f_X4_startAfresh (std : Nat → Int32) (tp : Int32) (brd : Nat → Int32) : (Nat → Int32) := (x_X4_startAfresh_9 std tp brd)
abbrev rm_X4_startAfresh : Room := { frames := 2, cells := 0, slots := 0, locals := 45 }
set_option maxRecDepth 100000 in
set_option maxHeartbeats 4000000 in
theorem k_X4_startAfresh (l : Launch) (D : va_G) (cI cZ : ClassId) (adK adV : Nat → Nat) (q : Nat → Nat) (std : Nat → Int32) (tb : Int32) (tp : Int32) (tr : Int32) (knd : Nat → Int32) (sec : Nat → Int32) (brd : Nat → Int32) (rms : Nat → Int32) : CV l D (kTy cI cZ) (kG adK adV) yX4_startAfresh (.code yX4_startAfresh cX4_startAfresh 4 none :: wsL_law) rm_X4_startAfresh [.ref (q 17), .ref (q 8)] (wStd cI q std ++ wTown cI q tb tp tr knd sec brd rms) (wStd cI q (f_X4_startAfresh std tp brd) ++ wTown cI q tb tp tr knd sec brd rms) := by
  refine CV.of (cc := cX4_startAfresh) (maxL := 4) (by decide) rfl (Nat.le_of_ble_eq_true rfl) ?_
  intro p e s m args below meth c A Q ls hx hb hml hts0 hown hA hP hK hD hE hl hret
  have hts : ∀ w ∈ wsL_law, w.before args s = true := fun w h => hts0 w (List.mem_cons_of_mem _ h)
  clear hts0
  have hown : s.vm.findClass RX4 = some m.cls := hown
  have hl : lv_has ls 4 [(0, .ref (q 17)), (1, .ref (q 8))] := hl
  have hS : va_S A s.heap s.heap [] := va_S.rf
  revert hP hS
  suffices hgo : ∀ (H : Heap) (locs : List Loc), va_P D vwCl (wStd cI q std ++ wTown cI q tb tp tr knd sec brd rms) H → va_S A s.heap H locs → W p l e rm_X4_startAfresh s m args below meth c H locs 0 0 Q (F0 m 0 ls []) from fun a b => hgo _ _ a b
  intro H locs hP hS
  refine lv_aload_n hx hb dX4_startAfresh_0 rfl (lv_at hl 0 rfl) ?_
  refine va_get (D := D) (ci := 4) (v := .ref (q 18)) (C := RX4) (T := TX4) (N := 1) hx hb hts inlX4 hown hK hP 0 rfl rfl 0 (by decide) (kw hts kin_4 0 rfl) (fun _ h9 => h9) rfl dX4_startAfresh_1 ?_
  refine kvv (As := []) (rest := []) (isC := [1, 2]) (isR := [0, 3, 4, 5, 6, 7, 8, 9, 10, 11]) (isN := [0, 10, 11, 1, 2, 3, 4, 5, 6, 7, 8, 9]) (as := [q 18, q 19]) (wr := ([0, 3, 4, 5, 6, 7, 8, 9, 10, 11] : List Nat).filterMap (fun i => (wStd cI q std ++ wTown cI q tb tp tr knd sec brd rms)[i]?)) (q0 := 0) (ci := 0) ⟨hx, hb, hml, hown, hts⟩ hP hK hD hS hA hE (k_X0_zero l D cI cZ adK adV (q 18) (q 19) 85 std (by decide)) (kcv hts kM_X0_zero (kin_15 _ (List.mem_of_getElem? (i := 23) rfl)) ⟨rfl, rfl⟩ ⟨Nat.le_of_ble_eq_true rfl, Nat.le_of_ble_eq_true rfl⟩) kBl_G kOk_G (wStd cI q (f_X0_zero 85 std) ++ wTown cI q tb tp tr knd sec brd rms) ⟨rfl, rfl, ⟨rfl, rfl⟩, rfl⟩ (by decide +kernel) rfl rfl rfl rfl hl.1 rfl (Nat.le_of_ble_eq_true rfl) dX4_startAfresh_4 (fun H locs hP hD hS => ?_)
  refine lv_iconst (v := 0) hx hb dX4_startAfresh_7 (by decide) ?_
  refine lv_istore_n (lv' := [(2, .int 0), (0, .ref (q 17)), (1, .ref (q 8))]) hx hb dX4_startAfresh_8 rfl hl (by decide) rfl (fun ls hl => ?_)
  have lp9 : ∀ (k9 i : Nat) (y9_std : Nat → Int32), i + k9 = tp.toNatClampNeg → y9_std = lp (fun iz z => nx_X4_startAfresh_9 brd iz z) (f_X0_zero 85 std) i → ∀ (H : Heap) (locs : List Loc) (ls : Array Slot), va_P D vwCl (wStd cI q y9_std ++ wTown cI q tb tp tr knd sec brd rms) H → va_D A (wStd cI q y9_std ++ wTown cI q tb tp tr knd sec brd rms) → va_S A s.heap H locs → lv_has ls 4 [(0, .ref (q 17)), (1, .ref (q 8)), (2, .int (nI i))] → W p l e rm_X4_startAfresh s m args below meth c H locs 0 0 Q (F0 m 9 ls []) := by
    intro k9
    induction k9 with
    | zero =>
      intro i y9_std hi9 ea9 H locs ls hP hD hS hl
      have hi9 : tp.toNatClampNeg = i := by omega
      subst hi9
      have ea9 : y9_std = (x_X4_startAfresh_9 std tp brd) := ea9
      subst ea9
      refine lv_iload_n hx hb dX4_startAfresh_9 rfl (lv_at hl 2 rfl) ?_
      refine lv_aload_n hx hb dX4_startAfresh_10 rfl (lv_at hl 1 rfl) ?_
      refine va_get (D := D) (ci := 5) (v := .int tp) (C := RX5) (T := TX5) (N := 7) hx hb hts inlX5 hown hK hP 3 rfl rfl 1 (by decide) (kw hts kin_15 22 rfl) (fun _ h9 => h9) rfl dX4_startAfresh_11 ?_
      refine lv_icmp_ge (tgt := 49) hx hb dX4_startAfresh_14 (by decide) (fun _ => ?_) (fun c_14 => absurd (kle_clamp _) c_14)
      have hf : (f_X4_startAfresh std tp brd) = (x_X4_startAfresh_9 std tp brd) := rfl
      rw [hf] at hret
      exact hret _ _ _ _ hP hS dX4_startAfresh_49
    | succ k9 ih9 =>
      intro i y9_std hi9 ea9 H locs ls hP hD hS hl
      have hlt9 : i < tp.toNatClampNeg := by omega
      refine lv_iload_n hx hb dX4_startAfresh_9 rfl (lv_at hl 2 rfl) ?_
      refine lv_aload_n hx hb dX4_startAfresh_10 rfl (lv_at hl 1 rfl) ?_
      refine va_get (D := D) (ci := 5) (v := .int tp) (C := RX5) (T := TX5) (N := 7) hx hb hts inlX5 hown hK hP 3 rfl rfl 1 (by decide) (kw hts kin_15 22 rfl) (fun _ h9 => h9) rfl dX4_startAfresh_11 ?_
      refine lv_icmp_ge (tgt := 49) hx hb dX4_startAfresh_14 (by decide) (fun c_14 => absurd c_14 (klt_clamp hlt9)) (fun _ => ?_)
      refine lv_iconst (v := 0) hx hb dX4_startAfresh_17 (by decide) ?_
      refine lv_istore_n (lv' := [(3, .int 0), (0, .ref (q 17)), (1, .ref (q 8)), (2, .int (nI i))]) hx hb dX4_startAfresh_18 rfl hl (by decide) rfl (fun ls hl => ?_)
      have lp19 : ∀ (k19 i1 : Nat) (y19_std : Nat → Int32), i1 + k19 = 6 → y19_std = lp (fun iz z => nx_X4_startAfresh_19 brd i iz z) y9_std i1 → ∀ (H : Heap) (locs : List Loc) (ls : Array Slot), va_P D vwCl (wStd cI q y19_std ++ wTown cI q tb tp tr knd sec brd rms) H → va_D A (wStd cI q y19_std ++ wTown cI q tb tp tr knd sec brd rms) → va_S A s.heap H locs → lv_has ls 4 [(0, .ref (q 17)), (1, .ref (q 8)), (2, .int (nI i)), (3, .int (nI i1))] → W p l e rm_X4_startAfresh s m args below meth c H locs 0 0 Q (F0 m 19 ls []) := by
        intro k19
        induction k19 with
        | zero =>
          intro i1 y19_std hi19 ea19 H locs ls hP hD hS hl
          have hi19 : 6 = i1 := by omega
          subst hi19
          have ea19 : y19_std = (x_X4_startAfresh_19 brd i y9_std) := ea19
          subst ea19
          refine lv_iload_n hx hb dX4_startAfresh_19 rfl (lv_at hl 3 rfl) ?_
          refine lv_bipush (v := 6) hx hb dX4_startAfresh_20 (by decide) ?_
          refine lv_icmp_ge (tgt := 43) hx hb dX4_startAfresh_22 (by decide) (fun _ => ?_) (fun c_22 => absurd (nI_le (Nat.le_refl _) (by decide)) c_22)
          refine lv_iinc (v := (nI (i + 1))) (lv' := [(2, .int (nI (i + 1))), (0, .ref (q 17)), (1, .ref (q 8)), (3, .int (nI 6))]) hx hb dX4_startAfresh_43 hl (k := 2) rfl (nI_1 i) (by decide) rfl (fun ls hl => ?_)
          refine lv_goto (tgt := 9) hx hb dX4_startAfresh_46 (by decide) ?_
          have hb9 : nx_X4_startAfresh_9 brd i y9_std = (x_X4_startAfresh_19 brd i y9_std) := rfl
          exact ih9 (i + 1) (x_X4_startAfresh_19 brd i y9_std) (by omega) (hb9.symm.trans (congrArg ((fun iz z => nx_X4_startAfresh_9 brd iz z) i) ea9)) _ _ _ hP hD hS (lv_sub hl [1, 2, 0] rfl)
        | succ k19 ih19 =>
          intro i1 y19_std hi19 ea19 H locs ls hP hD hS hl
          have hlt19 : i1 < 6 := by omega
          refine lv_iload_n hx hb dX4_startAfresh_19 rfl (lv_at hl 3 rfl) ?_
          refine lv_bipush (v := 6) hx hb dX4_startAfresh_20 (by decide) ?_
          refine lv_icmp_ge (tgt := 43) hx hb dX4_startAfresh_22 (by decide) (fun c_22 => absurd c_22 (nI_ge hlt19 (by decide))) (fun _ => ?_)
          refine lv_aload_n hx hb dX4_startAfresh_25 rfl (lv_at hl 0 rfl) ?_
          refine lv_iload_n hx hb dX4_startAfresh_26 rfl (lv_at hl 2 rfl) ?_
          refine lv_iload_n hx hb dX4_startAfresh_27 rfl (lv_at hl 3 rfl) ?_
          refine lv_aload_n hx hb dX4_startAfresh_28 rfl (lv_at hl 1 rfl) ?_
          refine lv_iload_n hx hb dX4_startAfresh_29 rfl (lv_at hl 2 rfl) ?_
          refine lv_iload_n hx hb dX4_startAfresh_30 rfl (lv_at hl 3 rfl) ?_
          refine kvi (As := [.int (nI i), .int (nI i1)]) (rest := [.int (nI i1), .int (nI i), .ref (q 17)]) (isC := [3, 4, 5, 6, 7, 8, 9, 10, 11]) (isR := [0, 1, 2]) (isN := [0, 1, 2, 3, 4, 5, 6, 7, 8, 9, 10, 11]) (as := [q 8, q 9, q 10, q 11, q 12, q 13, q 14, q 15, q 16]) (wr := ([0, 1, 2] : List Nat).filterMap (fun i => (wStd cI q y19_std ++ wTown cI q tb tp tr knd sec brd rms)[i]?)) (q0 := 0) (ci := 5) ⟨hx, hb, hml, hown, hts⟩ hP hK hD hS hA hE (k_X5_toldBeard l D cI cZ adK adV q tb tp tr knd sec brd rms (nI i) (nI i1)) (kcv hts kM_X5_toldBeard (kin_16 _ (List.mem_of_getElem? (i := 0) rfl)) ⟨rfl, rfl⟩ ⟨Nat.le_of_ble_eq_true rfl, Nat.le_of_ble_eq_true rfl⟩) kBl_G kOk_G (wStd cI q y19_std ++ wTown cI q tb tp tr knd sec brd rms) ⟨rfl, rfl, ⟨rfl, rfl⟩, rfl⟩ (by decide +kernel) rfl rfl rfl rfl hl.1 rfl (Nat.le_of_ble_eq_true rfl) dX4_startAfresh_31 (fun H locs hP hD hS => ?_)
          refine kvv (As := [.int (nI i), .int (nI i1), .int (f_X5_toldBeard brd (nI i) (nI i1))]) (rest := []) (isC := [0, 1, 2]) (isR := [3, 4, 5, 6, 7, 8, 9, 10, 11]) (isN := [9, 10, 11, 0, 1, 2, 3, 4, 5, 6, 7, 8]) (as := [q 17, q 18, q 19]) (wr := ([3, 4, 5, 6, 7, 8, 9, 10, 11] : List Nat).filterMap (fun i => (wStd cI q y19_std ++ wTown cI q tb tp tr knd sec brd rms)[i]?)) (q0 := 0) (ci := 4) ⟨hx, hb, hml, hown, hts⟩ hP hK hD hS hA hE (k_X4_setBeard l D cI cZ adK adV q y19_std (nI i) (nI i1) (f_X5_toldBeard brd (nI i) (nI i1))) (kcv hts kM_X4_setBeard (kin_16 _ (List.mem_of_getElem? (i := 5) rfl)) ⟨rfl, rfl⟩ ⟨Nat.le_of_ble_eq_true rfl, Nat.le_of_ble_eq_true rfl⟩) kBl_G kOk_G (wStd cI q (f_X4_setBeard y19_std (nI i) (nI i1) (f_X5_toldBeard brd (nI i) (nI i1))) ++ wTown cI q tb tp tr knd sec brd rms) ⟨rfl, rfl, ⟨rfl, rfl⟩, rfl⟩ (by decide +kernel) rfl rfl rfl rfl hl.1 rfl (Nat.le_of_ble_eq_true rfl) dX4_startAfresh_34 (fun H locs hP hD hS => ?_)
          refine lv_iinc (v := (nI (i1 + 1))) (lv' := [(3, .int (nI (i1 + 1))), (0, .ref (q 17)), (1, .ref (q 8)), (2, .int (nI i))]) hx hb dX4_startAfresh_37 hl (k := 3) rfl (nI_1 i1) (by decide) rfl (fun ls hl => ?_)
          refine lv_goto (tgt := 19) hx hb dX4_startAfresh_40 (by decide) ?_
          have hb19 : nx_X4_startAfresh_19 brd i i1 y19_std = (f_X4_setBeard y19_std (nI i) (nI i1) (f_X5_toldBeard brd (nI i) (nI i1))) := rfl
          exact ih19 (i1 + 1) (f_X4_setBeard y19_std (nI i) (nI i1) (f_X5_toldBeard brd (nI i) (nI i1))) (by omega) (hb19.symm.trans (congrArg ((fun iz z => nx_X4_startAfresh_19 brd i iz z) i1) ea19)) _ _ _ hP hD hS (lv_sub hl [1, 2, 3, 0] rfl)
      exact lp19 6 0 y9_std (Nat.zero_add _) rfl _ _ _ hP hD hS (lv_sub hl [1, 2, 3, 0] rfl)
  exact lp9 tp.toNatClampNeg 0 (f_X0_zero 85 std) (Nat.zero_add _) rfl _ _ _ hP hD hS (lv_sub hl [1, 2, 0] rfl)
def f_X2_store (n : Nat) (f : Nat → Int32) (std : Nat → Int32) (place : Int32) : (Nat → Int32) := (f_X0_take n 85 f std 0 (place * 85) 85)
abbrev rm_X2_store : Room := { frames := 2, cells := 0, slots := 0, locals := 84 }
set_option maxRecDepth 100000 in
set_option maxHeartbeats 4000000 in
theorem k_X2_store (l : Launch) (D : va_G) (cI cZ : ClassId) (adK adV : Nat → Nat) (b : Nat) (r : Nat) (a : Nat) (n : Nat) (q : Nat → Nat) (f : Nat → Int32) (std : Nat → Int32) (place : Int32) (hn : n < 2147483648) : CV l D (kTy cI cZ) (kG adK adV) yX2_store (.code yX2_store cX2_store 3 none :: wsL_law) rm_X2_store [.ref b, .int place, .ref (q 17)] (wShf cI b r a n f ++ wStd cI q std) (wShf cI b r a n (f_X2_store n f std place) ++ wStd cI q std) := by
  refine CV.of (cc := cX2_store) (maxL := 3) (by decide) rfl (Nat.le_of_ble_eq_true rfl) ?_
  intro p e s m args below meth c A Q ls hx hb hml hts0 hown hA hP hK hD hE hl hret
  have hts : ∀ w ∈ wsL_law, w.before args s = true := fun w h => hts0 w (List.mem_cons_of_mem _ h)
  clear hts0
  have hown : s.vm.findClass RX2 = some m.cls := hown
  have hl : lv_has ls 3 [(0, .ref b), (1, .int place), (2, .ref (q 17))] := hl
  have hS : va_S A s.heap s.heap [] := va_S.rf
  revert hP hS
  suffices hgo : ∀ (H : Heap) (locs : List Loc), va_P D vwCl (wShf cI b r a n f ++ wStd cI q std) H → va_S A s.heap H locs → W p l e rm_X2_store s m args below meth c H locs 0 0 Q (F0 m 0 ls []) from fun a b => hgo _ _ a b
  intro H locs hP hS
  refine lv_aload_n hx hb dX2_store_0 rfl (lv_at hl 0 rfl) ?_
  refine va_get (D := D) (ci := 2) (v := .ref r) (C := RX2) (T := TX2) (N := 1) hx hb hts inlX2 hown hK hP 0 rfl rfl 0 (by decide) (kw hts kin_4 16 rfl) (fun _ h9 => h9) rfl dX2_store_1 ?_
  refine lv_aload_n hx hb dX2_store_4 rfl (lv_at hl 2 rfl) ?_
  refine va_get (D := D) (ci := 4) (v := .ref (q 18)) (C := RX4) (T := TX4) (N := 1) hx hb hts inlX4 hown hK hP 3 rfl rfl 0 (by decide) (kw hts kin_23 13 rfl) (fun _ h9 => h9) rfl dX2_store_5 ?_
  refine lv_iconst (v := 0) hx hb dX2_store_8 (by decide) ?_
  refine lv_iload_n hx hb dX2_store_9 rfl (lv_at hl 1 rfl) ?_
  refine lv_bipush (v := 85) hx hb dX2_store_10 (by decide) ?_
  refine lv_imul hx hb dX2_store_12 ?_
  refine lv_bipush (v := 85) hx hb dX2_store_13 (by decide) ?_
  refine kvv (As := [.ref (q 18), .int 0, .int (place * 85), .int 85]) (rest := []) (isC := [1, 2, 4, 5]) (isR := [0, 3]) (isN := [0, 2, 3, 1, 4, 5]) (as := [r, a, q 18, q 19]) (wr := ([0, 3] : List Nat).filterMap (fun i => (wShf cI b r a n f ++ wStd cI q std)[i]?)) (q0 := 0) (ci := 0) ⟨hx, hb, hml, hown, hts⟩ hP hK hD hS hA hE (k_X0_take l D cI cZ adK adV r a n (q 18) (q 19) 85 f std 0 (place * 85) 85 hn (by decide)) (kcv hts kM_X0_take (kin_23 _ (List.mem_of_getElem? (i := 14) rfl)) ⟨rfl, rfl⟩ ⟨Nat.le_of_ble_eq_true rfl, Nat.le_of_ble_eq_true rfl⟩) kBl_G kOk_G (wShf cI b r a n (f_X0_take n 85 f std 0 (place * 85) 85) ++ wStd cI q std) ⟨rfl, rfl, ⟨rfl, rfl⟩, rfl⟩ (by decide +kernel) rfl rfl rfl rfl hl.1 rfl (Nat.le_of_ble_eq_true rfl) dX2_store_15 (fun H locs hP hD hS => ?_)
  have hf : (f_X2_store n f std place) = (f_X0_take n 85 f std 0 (place * 85) 85) := rfl
  rw [hf] at hret
  exact hret _ _ _ _ hP hS dX2_store_18
def f_X2_fetch (n : Nat) (f : Nat → Int32) (std : Nat → Int32) (place : Int32) : (Nat → Int32) := (f_X0_take 85 n std f (place * 85) 0 85)
abbrev rm_X2_fetch : Room := { frames := 2, cells := 0, slots := 0, locals := 84 }
set_option maxRecDepth 100000 in
set_option maxHeartbeats 4000000 in
theorem k_X2_fetch (l : Launch) (D : va_G) (cI cZ : ClassId) (adK adV : Nat → Nat) (b : Nat) (r : Nat) (a : Nat) (n : Nat) (q : Nat → Nat) (f : Nat → Int32) (std : Nat → Int32) (place : Int32) (hn : n < 2147483648) : CV l D (kTy cI cZ) (kG adK adV) yX2_fetch (.code yX2_fetch cX2_fetch 3 none :: wsL_law) rm_X2_fetch [.ref b, .int place, .ref (q 17)] (wShf cI b r a n f ++ wStd cI q std) (wShf cI b r a n f ++ wStd cI q (f_X2_fetch n f std place)) := by
  refine CV.of (cc := cX2_fetch) (maxL := 3) (by decide) rfl (Nat.le_of_ble_eq_true rfl) ?_
  intro p e s m args below meth c A Q ls hx hb hml hts0 hown hA hP hK hD hE hl hret
  have hts : ∀ w ∈ wsL_law, w.before args s = true := fun w h => hts0 w (List.mem_cons_of_mem _ h)
  clear hts0
  have hown : s.vm.findClass RX2 = some m.cls := hown
  have hl : lv_has ls 3 [(0, .ref b), (1, .int place), (2, .ref (q 17))] := hl
  have hS : va_S A s.heap s.heap [] := va_S.rf
  revert hP hS
  suffices hgo : ∀ (H : Heap) (locs : List Loc), va_P D vwCl (wShf cI b r a n f ++ wStd cI q std) H → va_S A s.heap H locs → W p l e rm_X2_fetch s m args below meth c H locs 0 0 Q (F0 m 0 ls []) from fun a b => hgo _ _ a b
  intro H locs hP hS
  refine lv_aload_n hx hb dX2_fetch_0 rfl (lv_at hl 2 rfl) ?_
  refine va_get (D := D) (ci := 4) (v := .ref (q 18)) (C := RX4) (T := TX4) (N := 1) hx hb hts inlX4 hown hK hP 3 rfl rfl 0 (by decide) (kw hts kin_23 13 rfl) (fun _ h9 => h9) rfl dX2_fetch_1 ?_
  refine lv_aload_n hx hb dX2_fetch_4 rfl (lv_at hl 0 rfl) ?_
  refine va_get (D := D) (ci := 2) (v := .ref r) (C := RX2) (T := TX2) (N := 1) hx hb hts inlX2 hown hK hP 0 rfl rfl 0 (by decide) (kw hts kin_4 16 rfl) (fun _ h9 => h9) rfl dX2_fetch_5 ?_
  refine lv_iload_n hx hb dX2_fetch_8 rfl (lv_at hl 1 rfl) ?_
  refine lv_bipush (v := 85) hx hb dX2_fetch_9 (by decide) ?_
  refine lv_imul hx hb dX2_fetch_11 ?_
  refine lv_iconst (v := 0) hx hb dX2_fetch_12 (by decide) ?_
  refine lv_bipush (v := 85) hx hb dX2_fetch_13 (by decide) ?_
  refine kvv (As := [.ref r, .int (place * 85), .int 0, .int 85]) (rest := []) (isC := [4, 5, 1, 2]) (isR := [0, 3]) (isN := [0, 4, 5, 1, 2, 3]) (as := [q 18, q 19, r, a]) (wr := ([0, 3] : List Nat).filterMap (fun i => (wShf cI b r a n f ++ wStd cI q std)[i]?)) (q0 := 0) (ci := 0) ⟨hx, hb, hml, hown, hts⟩ hP hK hD hS hA hE (k_X0_take l D cI cZ adK adV (q 18) (q 19) 85 r a n std f (place * 85) 0 85 (by decide) hn) (kcv hts kM_X0_take (kin_23 _ (List.mem_of_getElem? (i := 14) rfl)) ⟨rfl, rfl⟩ ⟨Nat.le_of_ble_eq_true rfl, Nat.le_of_ble_eq_true rfl⟩) kBl_G kOk_G (wShf cI b r a n f ++ wStd cI q (f_X0_take 85 n std f (place * 85) 0 85)) ⟨rfl, rfl, ⟨rfl, rfl⟩, rfl⟩ (by decide +kernel) rfl rfl rfl rfl hl.1 rfl (Nat.le_of_ble_eq_true rfl) dX2_fetch_15 (fun H locs hP hD hS => ?_)
  have hf : (f_X2_fetch n f std place) = (f_X0_take 85 n std f (place * 85) 0 85) := rfl
  rw [hf] at hret
  exact hret _ _ _ _ hP hS dX2_fetch_18
def f_X3_add (sn : Int32) (ss : Nat → Int32) (sb : Nat → Int32) (sp : Nat → Int32) (strip : Int32) (beard : Int32) (part : Int32) : Int32 × (Nat → Int32) × (Nat → Int32) × (Nat → Int32) := ((if (sn + 1) < 6 then (sn + 1) else 6), (f_X0_put 6 ss sn strip), (f_X0_put 6 sb sn beard), (f_X0_put 6 sp sn part))
abbrev rm_X3_add : Room := { frames := 1, cells := 0, slots := 0, locals := 22 }
set_option maxRecDepth 100000 in
set_option maxHeartbeats 4000000 in
theorem k_X3_add (l : Launch) (D : va_G) (cI cZ : ClassId) (adK adV : Nat → Nat) (q : Nat → Nat) (sn : Int32) (ss : Nat → Int32) (sb : Nat → Int32) (sp : Nat → Int32) (strip : Int32) (beard : Int32) (part : Int32) : CV l D (kTy cI cZ) (kG adK adV) yX3_add (.code yX3_add cX3_add 4 none :: wsL_law) rm_X3_add [.ref (q 20), .int strip, .int beard, .int part] (wSee cI q sn ss sb sp) (wSee cI q ((f_X3_add sn ss sb sp strip beard part).1) ((f_X3_add sn ss sb sp strip beard part).2.1) ((f_X3_add sn ss sb sp strip beard part).2.2.1) ((f_X3_add sn ss sb sp strip beard part).2.2.2)) := by
  refine CV.of (cc := cX3_add) (maxL := 4) (by decide) rfl (Nat.le_of_ble_eq_true rfl) ?_
  intro p e s m args below meth c A Q ls hx hb hml hts0 hown hA hP hK hD hE hl hret
  have hts : ∀ w ∈ wsL_law, w.before args s = true := fun w h => hts0 w (List.mem_cons_of_mem _ h)
  clear hts0
  have hown : s.vm.findClass RX3 = some m.cls := hown
  have hl : lv_has ls 4 [(0, .ref (q 20)), (1, .int strip), (2, .int beard), (3, .int part)] := hl
  have hS : va_S A s.heap s.heap [] := va_S.rf
  revert hP hS
  suffices hgo : ∀ (H : Heap) (locs : List Loc), va_P D vwCl (wSee cI q sn ss sb sp) H → va_S A s.heap H locs → W p l e rm_X3_add s m args below meth c H locs 0 0 Q (F0 m 0 ls []) from fun a b => hgo _ _ a b
  intro H locs hP hS
  refine lv_aload_n hx hb dX3_add_0 rfl (lv_at hl 0 rfl) ?_
  refine va_get (D := D) (ci := 3) (v := .ref (q 21)) (C := RX3) (T := TX3) (N := 4) hx hb hts inlX3 hown hK hP 0 rfl rfl 1 (by decide) (kw hts kin_4 7 rfl) (fun _ h9 => h9) rfl dX3_add_1 ?_
  refine lv_aload_n hx hb dX3_add_4 rfl (lv_at hl 0 rfl) ?_
  refine va_get (D := D) (ci := 3) (v := .int sn) (C := RX3) (T := TX3) (N := 4) hx hb hts inlX3 hown hK hP 0 rfl rfl 0 (by decide) (kw hts kin_16 14 rfl) (fun _ h9 => h9) rfl dX3_add_5 ?_
  refine lv_iload_n hx hb dX3_add_8 rfl (lv_at hl 1 rfl) ?_
  refine kvv (As := [.int sn, .int strip]) (rest := []) (isC := [1, 2]) (isR := [0, 3, 4, 5, 6]) (isN := [0, 5, 6, 1, 2, 3, 4]) (as := [q 21, q 22]) (wr := ([0, 3, 4, 5, 6] : List Nat).filterMap (fun i => (wSee cI q sn ss sb sp)[i]?)) (q0 := 0) (ci := 0) ⟨hx, hb, hml, hown, hts⟩ hP hK hD hS hA hE (k_X0_put l D cI cZ adK adV (q 21) (q 22) 6 ss sn strip (by decide)) (kcv hts kM_X0_put (kin_31 _ (List.mem_of_getElem? (i := 15) rfl)) ⟨rfl, rfl⟩ ⟨Nat.le_of_ble_eq_true rfl, Nat.le_of_ble_eq_true rfl⟩) kBl_G kOk_G (wSee cI q sn (f_X0_put 6 ss sn strip) sb sp) ⟨rfl, rfl, ⟨rfl, rfl⟩, rfl⟩ (by decide +kernel) rfl rfl rfl rfl hl.1 rfl (Nat.le_of_ble_eq_true rfl) dX3_add_9 (fun H locs hP hD hS => ?_)
  refine lv_aload_n hx hb dX3_add_12 rfl (lv_at hl 0 rfl) ?_
  refine va_get (D := D) (ci := 3) (v := .ref (q 23)) (C := RX3) (T := TX3) (N := 4) hx hb hts inlX3 hown hK hP 0 rfl rfl 2 (by decide) (kw hts kin_4 8 rfl) (fun _ h9 => h9) rfl dX3_add_13 ?_
  refine lv_aload_n hx hb dX3_add_16 rfl (lv_at hl 0 rfl) ?_
  refine va_get (D := D) (ci := 3) (v := .int sn) (C := RX3) (T := TX3) (N := 4) hx hb hts inlX3 hown hK hP 0 rfl rfl 0 (by decide) (kw hts kin_16 14 rfl) (fun _ h9 => h9) rfl dX3_add_17 ?_
  refine lv_iload_n hx hb dX3_add_20 rfl (lv_at hl 2 rfl) ?_
  refine kvv (As := [.int sn, .int beard]) (rest := []) (isC := [3, 4]) (isR := [0, 1, 2, 5, 6]) (isN := [0, 1, 2, 5, 6, 3, 4]) (as := [q 23, q 24]) (wr := ([0, 1, 2, 5, 6] : List Nat).filterMap (fun i => (wSee cI q sn (f_X0_put 6 ss sn strip) sb sp)[i]?)) (q0 := 0) (ci := 0) ⟨hx, hb, hml, hown, hts⟩ hP hK hD hS hA hE (k_X0_put l D cI cZ adK adV (q 23) (q 24) 6 sb sn beard (by decide)) (kcv hts kM_X0_put (kin_31 _ (List.mem_of_getElem? (i := 15) rfl)) ⟨rfl, rfl⟩ ⟨Nat.le_of_ble_eq_true rfl, Nat.le_of_ble_eq_true rfl⟩) kBl_G kOk_G (wSee cI q sn (f_X0_put 6 ss sn strip) (f_X0_put 6 sb sn beard) sp) ⟨rfl, rfl, ⟨rfl, rfl⟩, rfl⟩ (by decide +kernel) rfl rfl rfl rfl hl.1 rfl (Nat.le_of_ble_eq_true rfl) dX3_add_21 (fun H locs hP hD hS => ?_)
  refine lv_aload_n hx hb dX3_add_24 rfl (lv_at hl 0 rfl) ?_
  refine va_get (D := D) (ci := 3) (v := .ref (q 25)) (C := RX3) (T := TX3) (N := 4) hx hb hts inlX3 hown hK hP 0 rfl rfl 3 (by decide) (kw hts kin_4 9 rfl) (fun _ h9 => h9) rfl dX3_add_25 ?_
  refine lv_aload_n hx hb dX3_add_28 rfl (lv_at hl 0 rfl) ?_
  refine va_get (D := D) (ci := 3) (v := .int sn) (C := RX3) (T := TX3) (N := 4) hx hb hts inlX3 hown hK hP 0 rfl rfl 0 (by decide) (kw hts kin_16 14 rfl) (fun _ h9 => h9) rfl dX3_add_29 ?_
  refine lv_iload_n hx hb dX3_add_32 rfl (lv_at hl 3 rfl) ?_
  refine kvv (As := [.int sn, .int part]) (rest := []) (isC := [5, 6]) (isR := [0, 1, 2, 3, 4]) (isN := [0, 1, 2, 3, 4, 5, 6]) (as := [q 25, q 26]) (wr := ([0, 1, 2, 3, 4] : List Nat).filterMap (fun i => (wSee cI q sn (f_X0_put 6 ss sn strip) (f_X0_put 6 sb sn beard) sp)[i]?)) (q0 := 0) (ci := 0) ⟨hx, hb, hml, hown, hts⟩ hP hK hD hS hA hE (k_X0_put l D cI cZ adK adV (q 25) (q 26) 6 sp sn part (by decide)) (kcv hts kM_X0_put (kin_31 _ (List.mem_of_getElem? (i := 15) rfl)) ⟨rfl, rfl⟩ ⟨Nat.le_of_ble_eq_true rfl, Nat.le_of_ble_eq_true rfl⟩) kBl_G kOk_G (wSee cI q sn (f_X0_put 6 ss sn strip) (f_X0_put 6 sb sn beard) (f_X0_put 6 sp sn part)) ⟨rfl, rfl, ⟨rfl, rfl⟩, rfl⟩ (by decide +kernel) rfl rfl rfl rfl hl.1 rfl (Nat.le_of_ble_eq_true rfl) dX3_add_33 (fun H locs hP hD hS => ?_)
  refine lv_aload_n hx hb dX3_add_36 rfl (lv_at hl 0 rfl) ?_
  refine lv_bipush (v := 6) hx hb dX3_add_37 (by decide) ?_
  refine lv_aload_n hx hb dX3_add_39 rfl (lv_at hl 0 rfl) ?_
  refine va_get (D := D) (ci := 3) (v := .int sn) (C := RX3) (T := TX3) (N := 4) hx hb hts inlX3 hown hK hP 0 rfl rfl 0 (by decide) (kw hts kin_16 14 rfl) (fun _ h9 => h9) rfl dX3_add_40 ?_
  refine lv_iconst (v := 1) hx hb dX3_add_43 (by decide) ?_
  refine lv_iadd hx hb dX3_add_44 ?_
  refine va_mmin hx hb (hml.trans hl.1.symm) hown (kw hts kin_31 14 rfl) (kw hts kin_5 18 rfl) (kw hts kin_3 4 rfl) (kw hts kin_5 19 rfl) (Nat.le_of_ble_eq_true rfl) (Nat.le_of_ble_eq_true rfl) (Nat.zero_le _) (Nat.zero_le _) dX3_add_45 ?_
  refine va_put (D := D) (ci := 3) (v := .int (if (sn + 1) < 6 then (sn + 1) else 6)) (ty := .int) (C := RX3) (T := TX3) (N := 4) hx hb hts inlX3 tyX3 tyX3_ok nmX3 hown hK hP hD hS 0 rfl rfl 0 (by decide) (kw hts kin_16 14 rfl) (fun _ h9 => h9) rfl (by decide +kernel) rfl rfl (Nat.le_of_ble_eq_true rfl) dX3_add_48 (fun H locs hP hD hS => ?_)
  have hP : va_P D vwCl (wSee cI q (if (sn + 1) < 6 then (sn + 1) else 6) (f_X0_put 6 ss sn strip) (f_X0_put 6 sb sn beard) (f_X0_put 6 sp sn part)) H := hP
  have hD : va_D A (wSee cI q (if (sn + 1) < 6 then (sn + 1) else 6) (f_X0_put 6 ss sn strip) (f_X0_put 6 sb sn beard) (f_X0_put 6 sp sn part)) := hD
  have hf : (f_X3_add sn ss sb sp strip beard part) = ((if (sn + 1) < 6 then (sn + 1) else 6), (f_X0_put 6 ss sn strip), (f_X0_put 6 sb sn beard), (f_X0_put 6 sp sn part)) := rfl
  rw [hf] at hret
  exact hret _ _ _ _ hP hS dX3_add_51
def f_X3_clear : Int32 := 0
abbrev rm_X3_clear : Room := { frames := 0, cells := 0, slots := 0, locals := 0 }
set_option maxRecDepth 100000 in
set_option maxHeartbeats 4000000 in
theorem k_X3_clear (l : Launch) (D : va_G) (cI cZ : ClassId) (adK adV : Nat → Nat) (q : Nat → Nat) (sn : Int32) (ss : Nat → Int32) (sb : Nat → Int32) (sp : Nat → Int32) : CV l D (kTy cI cZ) (kG adK adV) yX3_clear (.code yX3_clear cX3_clear 1 none :: wsL_law) rm_X3_clear [.ref (q 20)] (wSee cI q sn ss sb sp) (wSee cI q f_X3_clear ss sb sp) := by
  refine CV.of (cc := cX3_clear) (maxL := 1) (by decide) rfl (Nat.le_of_ble_eq_true rfl) ?_
  intro p e s m args below meth c A Q ls hx hb hml hts0 hown hA hP hK hD hE hl hret
  have hts : ∀ w ∈ wsL_law, w.before args s = true := fun w h => hts0 w (List.mem_cons_of_mem _ h)
  clear hts0
  have hown : s.vm.findClass RX3 = some m.cls := hown
  have hl : lv_has ls 1 [(0, .ref (q 20))] := hl
  have hS : va_S A s.heap s.heap [] := va_S.rf
  revert hP hS
  suffices hgo : ∀ (H : Heap) (locs : List Loc), va_P D vwCl (wSee cI q sn ss sb sp) H → va_S A s.heap H locs → W p l e rm_X3_clear s m args below meth c H locs 0 0 Q (F0 m 0 ls []) from fun a b => hgo _ _ a b
  intro H locs hP hS
  refine lv_aload_n hx hb dX3_clear_0 rfl (lv_at hl 0 rfl) ?_
  refine lv_iconst (v := 0) hx hb dX3_clear_1 (by decide) ?_
  refine va_put (D := D) (ci := 3) (v := .int 0) (ty := .int) (C := RX3) (T := TX3) (N := 4) hx hb hts inlX3 tyX3 tyX3_ok nmX3 hown hK hP hD hS 0 rfl rfl 0 (by decide) (kw hts kin_16 14 rfl) (fun _ h9 => h9) rfl (by decide +kernel) rfl rfl (Nat.le_of_ble_eq_true rfl) dX3_clear_2 (fun H locs hP hD hS => ?_)
  have hP : va_P D vwCl (wSee cI q 0 ss sb sp) H := hP
  have hD : va_D A (wSee cI q 0 ss sb sp) := hD
  have hf : f_X3_clear = 0 := rfl
  rw [hf] at hret
  exact hret _ _ _ _ hP hS dX3_clear_5
