def v_X7_in_3_0 (v : Int64) (low : Int64) (high : Int64) : Int32 := if (lg_cmp v low) < 0 then 0 else (if 0 < (lg_cmp v high) then 0 else 1)
def f_X7_in (v : Int64) (low : Int64) (high : Int64) : Int32 := (v_X7_in_3_0 v low high)
abbrev rm_X7_in : Room := { frames := 0, cells := 0, slots := 0, locals := 0 }
theorem b01_X7_in (v : Int64) (low : Int64) (high : Int64) : (f_X7_in v low high) = 0 ∨ (f_X7_in v low high) = 1 := by
  simp only [v_X7_in_3_0, f_X7_in]
  (repeat' split) <;> first | exact Or.inl rfl | exact Or.inr rfl
set_option maxRecDepth 100000 in
set_option maxHeartbeats 4000000 in
theorem k_X7_in (l : Launch) (D : va_G) (cI cZ : ClassId) (v : Int64) (low : Int64) (high : Int64) : CI l D (kTy cI cZ) kT yX7_in (.code yX7_in cX7_in 6 (some .boolean) :: wsL_law) rm_X7_in [.long v, .long low, .long high] [] [] (f_X7_in v low high) := by
  refine CI.of (cc := cX7_in) (maxL := 6) (ty := .boolean) (by decide) rfl (Nat.le_of_ble_eq_true rfl) (knb (b01_X7_in v low high)) ?_
  intro p e s m args below meth c A Q ls hx hb hml hts0 hown hA hP hK hD hE hl hret
  have hts : ∀ w ∈ wsL_law, w.before args s = true := fun w h => hts0 w (List.mem_cons_of_mem _ h)
  clear hts0
  have hown : s.vm.findClass RX7 = some m.cls := hown
  have hl : lv_has ls 6 [(0, .long v), (2, .long low), (4, .long high)] := hl
  have hS : va_S A s.heap s.heap [] := va_S.rf
  revert hP hS
  suffices hgo : ∀ (H : Heap) (locs : List Loc), va_P D vwCl [] H → va_S A s.heap H locs → W p l e rm_X7_in s m args below meth c H locs 0 0 Q (F0 m 0 ls []) from fun a b => hgo _ _ a b
  intro H locs hP hS
  refine lv_lload_n hx hb dX7_in_0 rfl (lv_at hl 0 rfl) ?_
  refine lv_lload_n hx hb dX7_in_1 rfl (lv_at hl 1 rfl) ?_
  refine W.lcmp hx hb dX7_in_2 ?_
  have J3 : ∀ (H : Heap) (locs : List Loc) (ls : Array Slot), va_P D vwCl [] H → va_D A [] → va_S A s.heap H locs → lv_has ls 6 [(0, .long v), (2, .long low), (4, .long high)] → W p l e rm_X7_in s m args below meth c H locs 0 0 Q (F0 m 18 ls [.int (v_X7_in_3_0 v low high)]) := by
    intro H locs ls hP hD hS hl
    have hf : (f_X7_in v low high) = (v_X7_in_3_0 v low high) := rfl
    rw [hf] at hret
    exact hret _ _ _ _ hP hS dX7_in_18
  refine lv_if_lt (tgt := 17) hx hb dX7_in_3 (by decide) (fun c_3 => ?_) (fun c_3 => ?_)
  · skip
    refine lv_iconst (v := 0) hx hb dX7_in_17 (by decide) ?_
    rw [show (v_X7_in_3_0 v low high) = 0 from (if_pos c_3)] at J3
    exact J3 _ _ _ hP hD hS (lv_sub hl [0, 1, 2] rfl)
  · skip
    refine lv_lload_n hx hb dX7_in_6 rfl (lv_at hl 0 rfl) ?_
    refine lv_lload hx hb dX7_in_7 (lv_at hl 2 rfl) ?_
    refine W.lcmp hx hb dX7_in_9 ?_
    refine lv_if_gt (tgt := 17) hx hb dX7_in_10 (by decide) (fun c_10 => ?_) (fun c_10 => ?_)
    · skip
      refine lv_iconst (v := 0) hx hb dX7_in_17 (by decide) ?_
      rw [show (v_X7_in_3_0 v low high) = 0 from ((if_neg c_3).trans (if_pos c_10))] at J3
      exact J3 _ _ _ hP hD hS (lv_sub hl [0, 1, 2] rfl)
    · skip
      refine lv_iconst (v := 1) hx hb dX7_in_13 (by decide) ?_
      refine lv_goto (tgt := 18) hx hb dX7_in_14 (by decide) ?_
      rw [show (v_X7_in_3_0 v low high) = 1 from ((if_neg c_3).trans (if_neg c_10))] at J3
      exact J3 _ _ _ hP hD hS (lv_sub hl [0, 1, 2] rfl)
