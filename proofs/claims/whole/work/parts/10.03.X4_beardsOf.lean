def nx_X4_beardsOf_4 (std : Nat → Int32) (person : Int32) (i : Nat) (x4_2 : Int32) : Int32 := (x4_2 + (f_X4_beardOn std person (nI i)))
def x_X4_beardsOf_4 (std : Nat → Int32) (person : Int32) : Int32 := lp (fun iz z => nx_X4_beardsOf_4 std person iz z) 0 6
def f_X4_beardsOf (std : Nat → Int32) (person : Int32) : Int32 := (x_X4_beardsOf_4 std person)
abbrev rm_X4_beardsOf : Room := { frames := 2, cells := 0, slots := 0, locals := 43 }
set_option maxRecDepth 100000 in
theorem cut_std_std (cI : ClassId) (q : Nat → Nat) (std : Nat → Int32) (n_std : Nat → Int32) : kCut (wStd cI q std) (wStd cI q std) (wStd cI q n_std) (wStd cI q n_std) [] [0, 1, 2] [] [0, 1, 2] [q 17, q 18, q 19] ∧ kNd [0, 1, 2] [] [0, 1, 2] = true := ⟨⟨rfl, rfl, ⟨rfl, rfl⟩, rfl⟩, by decide +kernel⟩
set_option maxRecDepth 100000 in
set_option maxHeartbeats 4000000 in
theorem k_X4_beardsOf (l : Launch) (D : va_G) (cI cZ : ClassId) (adK adV : Nat → Nat) (q : Nat → Nat) (std : Nat → Int32) (person : Int32) : CI l D (kTy cI cZ) (kG adK adV) yX4_beardsOf (.code yX4_beardsOf cX4_beardsOf 4 (some .int) :: wsL_law) rm_X4_beardsOf [.ref (q 17), .int person] (wStd cI q std) (wStd cI q std) (f_X4_beardsOf std person) := by
  refine CI.of (cc := cX4_beardsOf) (maxL := 4) (ty := .int) (by decide) rfl (Nat.le_of_ble_eq_true rfl) rfl ?_
  intro p e s m args below meth c A Q ls hx hb hml hts0 hown hA hP hK hD hE hl hret
  have hts : ∀ w ∈ wsL_law, w.before args s = true := fun w h => hts0 w (List.mem_cons_of_mem _ h)
  clear hts0
  have hown : s.vm.findClass RX4 = some m.cls := hown
  have hl : lv_has ls 4 [(0, .ref (q 17)), (1, .int person)] := hl
  have hS : va_S A s.heap s.heap [] := va_S.rf
  revert hP hS
  suffices hgo : ∀ (H : Heap) (locs : List Loc), va_P D vwCl (wStd cI q std) H → va_S A s.heap H locs → W p l e rm_X4_beardsOf s m args below meth c H locs 0 0 Q (F0 m 0 ls []) from fun a b => hgo _ _ a b
  intro H locs hP hS
  refine lv_iconst (v := 0) hx hb dX4_beardsOf_0 (by decide) ?_
  refine lv_istore_n (lv' := [(2, .int 0), (0, .ref (q 17)), (1, .int person)]) hx hb dX4_beardsOf_1 rfl hl (by decide) rfl (fun ls hl => ?_)
  refine lv_iconst (v := 0) hx hb dX4_beardsOf_2 (by decide) ?_
  refine lv_istore_n (lv' := [(3, .int 0), (2, .int 0), (0, .ref (q 17)), (1, .int person)]) hx hb dX4_beardsOf_3 rfl hl (by decide) rfl (fun ls hl => ?_)
  have lp4 : ∀ (k4 i : Nat) (x4_2 : Int32), i + k4 = 6 → x4_2 = lp (fun iz z => nx_X4_beardsOf_4 std person iz z) 0 i → ∀ (H : Heap) (locs : List Loc) (ls : Array Slot), va_P D vwCl (wStd cI q std) H → va_D A (wStd cI q std) → va_S A s.heap H locs → lv_has ls 4 [(0, .ref (q 17)), (1, .int person), (2, .int x4_2), (3, .int (nI i))] → W p l e rm_X4_beardsOf s m args below meth c H locs 0 0 Q (F0 m 4 ls []) := by
    intro k4
    induction k4 with
    | zero =>
      intro i x4_2 hi4 ea4 H locs ls hP hD hS hl
      have hi4 : 6 = i := by omega
      subst hi4
      have ea4 : x4_2 = (x_X4_beardsOf_4 std person) := ea4
      subst ea4
      refine lv_iload_n hx hb dX4_beardsOf_4 rfl (lv_at hl 3 rfl) ?_
      refine lv_bipush (v := 6) hx hb dX4_beardsOf_5 (by decide) ?_
      refine lv_icmp_ge (tgt := 25) hx hb dX4_beardsOf_7 (by decide) (fun _ => ?_) (fun c_7 => absurd (nI_le (Nat.le_refl _) (by decide)) c_7)
      refine lv_iload_n hx hb dX4_beardsOf_25 rfl (lv_at hl 2 rfl) ?_
      have hf : (f_X4_beardsOf std person) = (x_X4_beardsOf_4 std person) := rfl
      rw [hf] at hret
      exact hret _ _ _ _ hP hS dX4_beardsOf_26
    | succ k4 ih4 =>
      intro i x4_2 hi4 ea4 H locs ls hP hD hS hl
      have hlt4 : i < 6 := by omega
      refine lv_iload_n hx hb dX4_beardsOf_4 rfl (lv_at hl 3 rfl) ?_
      refine lv_bipush (v := 6) hx hb dX4_beardsOf_5 (by decide) ?_
      refine lv_icmp_ge (tgt := 25) hx hb dX4_beardsOf_7 (by decide) (fun c_7 => absurd c_7 (nI_ge hlt4 (by decide))) (fun _ => ?_)
      refine lv_iload_n hx hb dX4_beardsOf_10 rfl (lv_at hl 2 rfl) ?_
      refine lv_aload_n hx hb dX4_beardsOf_11 rfl (lv_at hl 0 rfl) ?_
      refine lv_iload_n hx hb dX4_beardsOf_12 rfl (lv_at hl 1 rfl) ?_
      refine lv_iload_n hx hb dX4_beardsOf_13 rfl (lv_at hl 3 rfl) ?_
      refine kvi (As := [.int person, .int (nI i)]) (rest := [.int x4_2]) (q0 := 0) (ci := 4) ⟨hx, hb, hml, hown, hts⟩ hP hK hD hS hA hE (k_X4_beardOn l D cI cZ adK adV q std person (nI i)) (kcv hts kM_X4_beardOn (kin_17 _ (List.mem_of_getElem? (i := 17) rfl)) ⟨rfl, rfl⟩ ⟨Nat.le_of_ble_eq_true rfl, Nat.le_of_ble_eq_true rfl⟩) kBl_G kOk_G (wStd cI q std) (cut_std_std cI q std std).1 (cut_std_std cI q std std).2 rfl rfl rfl rfl hl.1 rfl (Nat.le_of_ble_eq_true rfl) dX4_beardsOf_14 (fun H locs hP hD hS => ?_)
      refine lv_iadd hx hb dX4_beardsOf_17 ?_
      refine lv_istore_n (lv' := [(2, .int (x4_2 + (f_X4_beardOn std person (nI i)))), (0, .ref (q 17)), (1, .int person), (3, .int (nI i))]) hx hb dX4_beardsOf_18 rfl hl (by decide) rfl (fun ls hl => ?_)
      refine lv_iinc (v := (nI (i + 1))) (lv' := [(3, .int (nI (i + 1))), (2, .int (x4_2 + (f_X4_beardOn std person (nI i)))), (0, .ref (q 17)), (1, .int person)]) hx hb dX4_beardsOf_19 hl (k := 3) rfl (nI_1 i) (by decide) rfl (fun ls hl => ?_)
      refine lv_goto (tgt := 4) hx hb dX4_beardsOf_22 (by decide) ?_
      have hb4 : nx_X4_beardsOf_4 std person i x4_2 = (x4_2 + (f_X4_beardOn std person (nI i))) := rfl
      have hs4 : (lp (fun iz z => nx_X4_beardsOf_4 std person iz z) 0 (i + 1) : Int32) = nx_X4_beardsOf_4 std person i (lp (fun iz z => nx_X4_beardsOf_4 std person iz z) 0 i : Int32) := lp_succ _ _ _
      rw [← ea4] at hs4
      exact ih4 (i + 1) (x4_2 + (f_X4_beardOn std person (nI i))) (by omega) (hb4.symm.trans hs4.symm) _ _ _ hP hD hS (lv_sub hl [2, 3, 1, 0] rfl)
  exact lp4 6 0 0 (Nat.zero_add _) (lp_zero _ _).symm _ _ _ hP hD hS (lv_sub hl [2, 3, 1, 0] rfl)
