def nx_X7_ones_4 (set_ : Int32) (i : Nat) (x4_1 : Int32) : Int32 := (x4_1 + ((set_ >>> ((nI i) &&& 31)) &&& 1))
def x_X7_ones_4 (set_ : Int32) : Int32 := lp (fun iz z => nx_X7_ones_4 set_ iz z) 0 6
def f_X7_ones (set_ : Int32) : Int32 := (x_X7_ones_4 set_)
abbrev rm_X7_ones : Room := { frames := 0, cells := 0, slots := 0, locals := 0 }
set_option maxRecDepth 100000 in
set_option maxHeartbeats 4000000 in
theorem k_X7_ones (l : Launch) (D : va_G) (cI cZ : ClassId) (set_ : Int32) : CI l D (kTy cI cZ) kT yX7_ones (.code yX7_ones cX7_ones 3 (some .int) :: wsL_law) rm_X7_ones [.int set_] [] [] (f_X7_ones set_) := by
  refine CI.of (cc := cX7_ones) (maxL := 3) (ty := .int) (by decide) rfl (Nat.le_of_ble_eq_true rfl) rfl ?_
  intro p e s m args below meth c A Q ls hx hb hml hts0 hown hA hP hK hD hE hl hret
  have hts : ∀ w ∈ wsL_law, w.before args s = true := fun w h => hts0 w (List.mem_cons_of_mem _ h)
  clear hts0
  have hown : s.vm.findClass RX7 = some m.cls := hown
  have hl : lv_has ls 3 [(0, .int set_)] := hl
  have hS : va_S A s.heap s.heap [] := va_S.rf
  revert hP hS
  suffices hgo : ∀ (H : Heap) (locs : List Loc), va_P D vwCl [] H → va_S A s.heap H locs → W p l e rm_X7_ones s m args below meth c H locs 0 0 Q (F0 m 0 ls []) from fun a b => hgo _ _ a b
  intro H locs hP hS
  refine lv_iconst (v := 0) hx hb dX7_ones_0 (by decide) ?_
  refine lv_istore_n (lv' := [(1, .int 0), (0, .int set_)]) hx hb dX7_ones_1 rfl hl (by decide) rfl (fun ls hl => ?_)
  refine lv_iconst (v := 0) hx hb dX7_ones_2 (by decide) ?_
  refine lv_istore_n (lv' := [(2, .int 0), (1, .int 0), (0, .int set_)]) hx hb dX7_ones_3 rfl hl (by decide) rfl (fun ls hl => ?_)
  have lp4 : ∀ (k4 i : Nat) (x4_1 : Int32), i + k4 = 6 → x4_1 = lp (fun iz z => nx_X7_ones_4 set_ iz z) 0 i → ∀ (H : Heap) (locs : List Loc) (ls : Array Slot), va_P D vwCl [] H → va_D A [] → va_S A s.heap H locs → lv_has ls 3 [(0, .int set_), (1, .int x4_1), (2, .int (nI i))] → W p l e rm_X7_ones s m args below meth c H locs 0 0 Q (F0 m 4 ls []) := by
    intro k4
    induction k4 with
    | zero =>
      intro i x4_1 hi4 ea4 H locs ls hP hD hS hl
      have hi4 : 6 = i := by omega
      subst hi4
      have ea4 : x4_1 = (x_X7_ones_4 set_) := ea4
      subst ea4
      refine lv_iload_n hx hb dX7_ones_4 rfl (lv_at hl 2 rfl) ?_
      refine lv_bipush (v := 6) hx hb dX7_ones_5 (by decide) ?_
      refine lv_icmp_ge (tgt := 24) hx hb dX7_ones_7 (by decide) (fun _ => ?_) (fun c_7 => absurd (nI_le (Nat.le_refl _) (by decide)) c_7)
      refine lv_iload_n hx hb dX7_ones_24 rfl (lv_at hl 1 rfl) ?_
      have hf : (f_X7_ones set_) = (x_X7_ones_4 set_) := rfl
      rw [hf] at hret
      exact hret _ _ _ _ hP hS dX7_ones_25
    | succ k4 ih4 =>
      intro i x4_1 hi4 ea4 H locs ls hP hD hS hl
      have hlt4 : i < 6 := by omega
      refine lv_iload_n hx hb dX7_ones_4 rfl (lv_at hl 2 rfl) ?_
      refine lv_bipush (v := 6) hx hb dX7_ones_5 (by decide) ?_
      refine lv_icmp_ge (tgt := 24) hx hb dX7_ones_7 (by decide) (fun c_7 => absurd c_7 (nI_ge hlt4 (by decide))) (fun _ => ?_)
      refine lv_iload_n hx hb dX7_ones_10 rfl (lv_at hl 1 rfl) ?_
      refine lv_iload_n hx hb dX7_ones_11 rfl (lv_at hl 0 rfl) ?_
      refine lv_iload_n hx hb dX7_ones_12 rfl (lv_at hl 2 rfl) ?_
      refine lv_ishr hx hb dX7_ones_13 ?_
      refine lv_iconst (v := 1) hx hb dX7_ones_14 (by decide) ?_
      refine lv_iand hx hb dX7_ones_15 ?_
      refine lv_iadd hx hb dX7_ones_16 ?_
      refine lv_istore_n (lv' := [(1, .int (x4_1 + ((set_ >>> ((nI i) &&& 31)) &&& 1))), (0, .int set_), (2, .int (nI i))]) hx hb dX7_ones_17 rfl hl (by decide) rfl (fun ls hl => ?_)
      refine lv_iinc (v := (nI (i + 1))) (lv' := [(2, .int (nI (i + 1))), (1, .int (x4_1 + ((set_ >>> ((nI i) &&& 31)) &&& 1))), (0, .int set_)]) hx hb dX7_ones_18 hl (k := 2) rfl (nI_1 i) (by decide) rfl (fun ls hl => ?_)
      refine lv_goto (tgt := 4) hx hb dX7_ones_21 (by decide) ?_
      have hb4 : nx_X7_ones_4 set_ i x4_1 = (x4_1 + ((set_ >>> ((nI i) &&& 31)) &&& 1)) := rfl
      have hs4 : (lp (fun iz z => nx_X7_ones_4 set_ iz z) 0 (i + 1) : Int32) = nx_X7_ones_4 set_ i (lp (fun iz z => nx_X7_ones_4 set_ iz z) 0 i : Int32) := lp_succ _ _ _
      rw [← ea4] at hs4
      exact ih4 (i + 1) (x4_1 + ((set_ >>> ((nI i) &&& 31)) &&& 1)) (by omega) (hb4.symm.trans hs4.symm) _ _ _ hP hD hS (lv_sub hl [2, 1, 0] rfl)
  exact lp4 6 0 0 (Nat.zero_add _) (lp_zero _ _).symm _ _ _ hP hD hS (lv_sub hl [2, 1, 0] rfl)
