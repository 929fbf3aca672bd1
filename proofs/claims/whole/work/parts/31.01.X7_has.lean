def v_X7_has_6_0 (set_ : Int32) (k : Int32) : Int32 := if ((set_ >>> (k &&& 31)) &&& 1) = 1 then 1 else 0
def f_X7_has (set_ : Int32) (k : Int32) : Int32 := (v_X7_has_6_0 set_ k)
abbrev rm_X7_has : Room := { frames := 0, cells := 0, slots := 0, locals := 0 }
theorem b01_X7_has (set_ : Int32) (k : Int32) : (f_X7_has set_ k) = 0 ∨ (f_X7_has set_ k) = 1 := by
  simp only [v_X7_has_6_0, f_X7_has]
  (repeat' split) <;> first | exact Or.inl rfl | exact Or.inr rfl | exact b01_X7_in _ _ _
set_option maxRecDepth 100000 in
set_option maxHeartbeats 4000000 in
theorem k_X7_has (l : Launch) (D : va_G) (cI cZ : ClassId) (set_ : Int32) (k : Int32) : CI l D (kTy cI cZ) kT yX7_has (.code yX7_has cX7_has 2 (some .boolean) :: wsL_law) rm_X7_has [.int set_, .int k] [] [] (f_X7_has set_ k) := by
  refine CI.of (cc := cX7_has) (maxL := 2) (ty := .boolean) (by decide) rfl (Nat.le_of_ble_eq_true rfl) (knb (b01_X7_has set_ k)) ?_
  intro p e s m args below meth c A Q ls hx hb hml hts0 hown hA hP hK hD hE hl hret
  have hts : ∀ w ∈ wsL_law, w.before args s = true := fun w h => hts0 w (List.mem_cons_of_mem _ h)
  clear hts0
  have hown : s.vm.findClass RX7 = some m.cls := hown
  have hl : lv_has ls 2 [(0, .int set_), (1, .int k)] := hl
  have hS : va_S A s.heap s.heap [] := va_S.rf
  revert hP hS
  suffices hgo : ∀ (H : Heap) (locs : List Loc), va_P D vwCl [] H → va_S A s.heap H locs → W p l e rm_X7_has s m args below meth c H locs 0 0 Q (F0 m 0 ls []) from fun a b => hgo _ _ a b
  intro H locs hP hS
  refine lv_iload_n hx hb dX7_has_0 rfl (lv_at hl 0 rfl) ?_
  refine lv_iload_n hx hb dX7_has_1 rfl (lv_at hl 1 rfl) ?_
  refine lv_ishr hx hb dX7_has_2 ?_
  refine lv_iconst (v := 1) hx hb dX7_has_3 (by decide) ?_
  refine lv_iand hx hb dX7_has_4 ?_
  refine lv_iconst (v := 1) hx hb dX7_has_5 (by decide) ?_
  have J6 : ∀ (H : Heap) (locs : List Loc) (ls : Array Slot), va_P D vwCl [] H → va_D A [] → va_S A s.heap H locs → lv_has ls 2 [(0, .int set_), (1, .int k)] → W p l e rm_X7_has s m args below meth c H locs 0 0 Q (F0 m 14 ls [.int (v_X7_has_6_0 set_ k)]) := by
    intro H locs ls hP hD hS hl
    have hf : (f_X7_has set_ k) = (v_X7_has_6_0 set_ k) := rfl
    rw [hf] at hret
    exact hret _ _ _ _ hP hS dX7_has_14
  refine lv_icmp_ne (tgt := 13) hx hb dX7_has_6 (by decide) (fun c_6 => ?_) (fun c_6 => ?_)
  · skip
    refine lv_iconst (v := 0) hx hb dX7_has_13 (by decide) ?_
    rw [show (v_X7_has_6_0 set_ k) = 0 from (if_neg c_6)] at J6
    exact J6 _ _ _ hP hD hS (lv_sub hl [0, 1] rfl)
  · skip
    refine lv_iconst (v := 1) hx hb dX7_has_9 (by decide) ?_
    refine lv_goto (tgt := 14) hx hb dX7_has_10 (by decide) ?_
    rw [show (v_X7_has_6_0 set_ k) = 1 from (if_pos c_6)] at J6
    exact J6 _ _ _ hP hD hS (lv_sub hl [0, 1] rfl)
