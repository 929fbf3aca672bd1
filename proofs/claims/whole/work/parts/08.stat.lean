def f_J6_bitCount_0f7a4 (x : Int32) : Int32 := ((((((((x - ((kushr x 1) &&& 1431655765)) &&& 858993459) + ((kushr (x - ((kushr x 1) &&& 1431655765)) 2) &&& 858993459)) + (kushr (((x - ((kushr x 1) &&& 1431655765)) &&& 858993459) + ((kushr (x - ((kushr x 1) &&& 1431655765)) 2) &&& 858993459)) 4)) &&& 252645135) + (kushr (((((x - ((kushr x 1) &&& 1431655765)) &&& 858993459) + ((kushr (x - ((kushr x 1) &&& 1431655765)) 2) &&& 858993459)) + (kushr (((x - ((kushr x 1) &&& 1431655765)) &&& 858993459) + ((kushr (x - ((kushr x 1) &&& 1431655765)) 2) &&& 858993459)) 4)) &&& 252645135) 8)) + (kushr ((((((x - ((kushr x 1) &&& 1431655765)) &&& 858993459) + ((kushr (x - ((kushr x 1) &&& 1431655765)) 2) &&& 858993459)) + (kushr (((x - ((kushr x 1) &&& 1431655765)) &&& 858993459) + ((kushr (x - ((kushr x 1) &&& 1431655765)) 2) &&& 858993459)) 4)) &&& 252645135) + (kushr (((((x - ((kushr x 1) &&& 1431655765)) &&& 858993459) + ((kushr (x - ((kushr x 1) &&& 1431655765)) 2) &&& 858993459)) + (kushr (((x - ((kushr x 1) &&& 1431655765)) &&& 858993459) + ((kushr (x - ((kushr x 1) &&& 1431655765)) 2) &&& 858993459)) 4)) &&& 252645135) 8)) 16)) &&& 63)
abbrev rm_J6_bitCount_0f7a4 : Room := { frames := 0, cells := 0, slots := 0, locals := 0 }
set_option maxRecDepth 100000 in
set_option maxHeartbeats 4000000 in
theorem k_J6_bitCount_0f7a4 (l : Launch) (D : va_G) (cI cZ : ClassId) (adK adV : Nat → Nat) (x : Int32) : CI l D (kTy cI cZ) (kG adK adV) yJ6_bitCount_0f7a4 (.code yJ6_bitCount_0f7a4 cJ6_bitCount_0f7a4 1 (some .int) :: wsL_law) rm_J6_bitCount_0f7a4 [.int x] [] [] (f_J6_bitCount_0f7a4 x) := by
  refine CI.of (cc := cJ6_bitCount_0f7a4) (maxL := 1) (ty := .int) (by decide) rfl (Nat.le_of_ble_eq_true rfl) rfl ?_
  intro p e s m args below meth c A Q ls hx hb hml hts0 hown hA hP hK hD hE hl hret
  have hts : ∀ w ∈ wsL_law, w.before args s = true := fun w h => hts0 w (List.mem_cons_of_mem _ h)
  clear hts0
  have hown : s.vm.findClass RJ6 = some m.cls := hown
  have hl : lv_has ls 1 [(0, .int x)] := hl
  have hS : va_S A s.heap s.heap [] := va_S.rf
  revert hP hS
  suffices hgo : ∀ (H : Heap) (locs : List Loc), va_P D vwCl [] H → va_S A s.heap H locs → W p l e rm_J6_bitCount_0f7a4 s m args below meth c H locs 0 0 Q (F0 m 0 ls []) from fun a b => hgo _ _ a b
  intro H locs hP hS
  refine lv_iload_n hx hb dJ6_bitCount_0f7a4_0 rfl (lv_at hl 0 rfl) ?_
  refine lv_iload_n hx hb dJ6_bitCount_0f7a4_1 rfl (lv_at hl 0 rfl) ?_
  refine lv_iconst (v := 1) hx hb dJ6_bitCount_0f7a4_2 (by decide) ?_
  refine lv_iushr (v := (kushr x 1)) hx hb dJ6_bitCount_0f7a4_3 rfl ?_
  refine lv_ldcw (v := 1431655765) hx hb hown (kw hts kin_26 17 rfl) dJ6_bitCount_0f7a4_4 ?_
  refine lv_iand hx hb dJ6_bitCount_0f7a4_7 ?_
  refine lv_isub hx hb dJ6_bitCount_0f7a4_8 ?_
  refine lv_istore_n (lv' := [(0, .int (x - ((kushr x 1) &&& 1431655765)))]) hx hb dJ6_bitCount_0f7a4_9 rfl hl (by decide) rfl (fun ls hl => ?_)
  refine lv_iload_n hx hb dJ6_bitCount_0f7a4_10 rfl (lv_at hl 0 rfl) ?_
  refine lv_ldcw (v := 858993459) hx hb hown (kw hts kin_26 18 rfl) dJ6_bitCount_0f7a4_11 ?_
  refine lv_iand hx hb dJ6_bitCount_0f7a4_14 ?_
  refine lv_iload_n hx hb dJ6_bitCount_0f7a4_15 rfl (lv_at hl 0 rfl) ?_
  refine lv_iconst (v := 2) hx hb dJ6_bitCount_0f7a4_16 (by decide) ?_
  refine lv_iushr (v := (kushr (x - ((kushr x 1) &&& 1431655765)) 2)) hx hb dJ6_bitCount_0f7a4_17 rfl ?_
  refine lv_ldcw (v := 858993459) hx hb hown (kw hts kin_26 18 rfl) dJ6_bitCount_0f7a4_18 ?_
  refine lv_iand hx hb dJ6_bitCount_0f7a4_21 ?_
  refine lv_iadd hx hb dJ6_bitCount_0f7a4_22 ?_
  refine lv_istore_n (lv' := [(0, .int (((x - ((kushr x 1) &&& 1431655765)) &&& 858993459) + ((kushr (x - ((kushr x 1) &&& 1431655765)) 2) &&& 858993459)))]) hx hb dJ6_bitCount_0f7a4_23 rfl hl (by decide) rfl (fun ls hl => ?_)
  refine lv_iload_n hx hb dJ6_bitCount_0f7a4_24 rfl (lv_at hl 0 rfl) ?_
  refine lv_iload_n hx hb dJ6_bitCount_0f7a4_25 rfl (lv_at hl 0 rfl) ?_
  refine lv_iconst (v := 4) hx hb dJ6_bitCount_0f7a4_26 (by decide) ?_
  refine lv_iushr (v := (kushr (((x - ((kushr x 1) &&& 1431655765)) &&& 858993459) + ((kushr (x - ((kushr x 1) &&& 1431655765)) 2) &&& 858993459)) 4)) hx hb dJ6_bitCount_0f7a4_27 rfl ?_
  refine lv_iadd hx hb dJ6_bitCount_0f7a4_28 ?_
  refine lv_ldcw (v := 252645135) hx hb hown (kw hts kin_26 19 rfl) dJ6_bitCount_0f7a4_29 ?_
  refine lv_iand hx hb dJ6_bitCount_0f7a4_32 ?_
  refine lv_istore_n (lv' := [(0, .int (((((x - ((kushr x 1) &&& 1431655765)) &&& 858993459) + ((kushr (x - ((kushr x 1) &&& 1431655765)) 2) &&& 858993459)) + (kushr (((x - ((kushr x 1) &&& 1431655765)) &&& 858993459) + ((kushr (x - ((kushr x 1) &&& 1431655765)) 2) &&& 858993459)) 4)) &&& 252645135))]) hx hb dJ6_bitCount_0f7a4_33 rfl hl (by decide) rfl (fun ls hl => ?_)
  refine lv_iload_n hx hb dJ6_bitCount_0f7a4_34 rfl (lv_at hl 0 rfl) ?_
  refine lv_iload_n hx hb dJ6_bitCount_0f7a4_35 rfl (lv_at hl 0 rfl) ?_
  refine lv_bipush (v := 8) hx hb dJ6_bitCount_0f7a4_36 (by decide) ?_
  refine lv_iushr (v := (kushr (((((x - ((kushr x 1) &&& 1431655765)) &&& 858993459) + ((kushr (x - ((kushr x 1) &&& 1431655765)) 2) &&& 858993459)) + (kushr (((x - ((kushr x 1) &&& 1431655765)) &&& 858993459) + ((kushr (x - ((kushr x 1) &&& 1431655765)) 2) &&& 858993459)) 4)) &&& 252645135) 8)) hx hb dJ6_bitCount_0f7a4_38 rfl ?_
  refine lv_iadd hx hb dJ6_bitCount_0f7a4_39 ?_
  refine lv_istore_n (lv' := [(0, .int ((((((x - ((kushr x 1) &&& 1431655765)) &&& 858993459) + ((kushr (x - ((kushr x 1) &&& 1431655765)) 2) &&& 858993459)) + (kushr (((x - ((kushr x 1) &&& 1431655765)) &&& 858993459) + ((kushr (x - ((kushr x 1) &&& 1431655765)) 2) &&& 858993459)) 4)) &&& 252645135) + (kushr (((((x - ((kushr x 1) &&& 1431655765)) &&& 858993459) + ((kushr (x - ((kushr x 1) &&& 1431655765)) 2) &&& 858993459)) + (kushr (((x - ((kushr x 1) &&& 1431655765)) &&& 858993459) + ((kushr (x - ((kushr x 1) &&& 1431655765)) 2) &&& 858993459)) 4)) &&& 252645135) 8)))]) hx hb dJ6_bitCount_0f7a4_40 rfl hl (by decide) rfl (fun ls hl => ?_)
  refine lv_iload_n hx hb dJ6_bitCount_0f7a4_41 rfl (lv_at hl 0 rfl) ?_
  refine lv_iload_n hx hb dJ6_bitCount_0f7a4_42 rfl (lv_at hl 0 rfl) ?_
  refine lv_bipush (v := 16) hx hb dJ6_bitCount_0f7a4_43 (by decide) ?_
  refine lv_iushr (v := (kushr ((((((x - ((kushr x 1) &&& 1431655765)) &&& 858993459) + ((kushr (x - ((kushr x 1) &&& 1431655765)) 2) &&& 858993459)) + (kushr (((x - ((kushr x 1) &&& 1431655765)) &&& 858993459) + ((kushr (x - ((kushr x 1) &&& 1431655765)) 2) &&& 858993459)) 4)) &&& 252645135) + (kushr (((((x - ((kushr x 1) &&& 1431655765)) &&& 858993459) + ((kushr (x - ((kushr x 1) &&& 1431655765)) 2) &&& 858993459)) + (kushr (((x - ((kushr x 1) &&& 1431655765)) &&& 858993459) + ((kushr (x - ((kushr x 1) &&& 1431655765)) 2) &&& 858993459)) 4)) &&& 252645135) 8)) 16)) hx hb dJ6_bitCount_0f7a4_45 rfl ?_
  refine lv_iadd hx hb dJ6_bitCount_0f7a4_46 ?_
  refine lv_istore_n (lv' := [(0, .int (((((((x - ((kushr x 1) &&& 1431655765)) &&& 858993459) + ((kushr (x - ((kushr x 1) &&& 1431655765)) 2) &&& 858993459)) + (kushr (((x - ((kushr x 1) &&& 1431655765)) &&& 858993459) + ((kushr (x - ((kushr x 1) &&& 1431655765)) 2) &&& 858993459)) 4)) &&& 252645135) + (kushr (((((x - ((kushr x 1) &&& 1431655765)) &&& 858993459) + ((kushr (x - ((kushr x 1) &&& 1431655765)) 2) &&& 858993459)) + (kushr (((x - ((kushr x 1) &&& 1431655765)) &&& 858993459) + ((kushr (x - ((kushr x 1) &&& 1431655765)) 2) &&& 858993459)) 4)) &&& 252645135) 8)) + (kushr ((((((x - ((kushr x 1) &&& 1431655765)) &&& 858993459) + ((kushr (x - ((kushr x 1) &&& 1431655765)) 2) &&& 858993459)) + (kushr (((x - ((kushr x 1) &&& 1431655765)) &&& 858993459) + ((kushr (x - ((kushr x 1) &&& 1431655765)) 2) &&& 858993459)) 4)) &&& 252645135) + (kushr (((((x - ((kushr x 1) &&& 1431655765)) &&& 858993459) + ((kushr (x - ((kushr x 1) &&& 1431655765)) 2) &&& 858993459)) + (kushr (((x - ((kushr x 1) &&& 1431655765)) &&& 858993459) + ((kushr (x - ((kushr x 1) &&& 1431655765)) 2) &&& 858993459)) 4)) &&& 252645135) 8)) 16)))]) hx hb dJ6_bitCount_0f7a4_47 rfl hl (by decide) rfl (fun ls hl => ?_)
  refine lv_iload_n hx hb dJ6_bitCount_0f7a4_48 rfl (lv_at hl 0 rfl) ?_
  refine lv_bipush (v := 63) hx hb dJ6_bitCount_0f7a4_49 (by decide) ?_
  refine lv_iand hx hb dJ6_bitCount_0f7a4_51 ?_
  have hf : (f_J6_bitCount_0f7a4 x) = ((((((((x - ((kushr x 1) &&& 1431655765)) &&& 858993459) + ((kushr (x - ((kushr x 1) &&& 1431655765)) 2) &&& 858993459)) + (kushr (((x - ((kushr x 1) &&& 1431655765)) &&& 858993459) + ((kushr (x - ((kushr x 1) &&& 1431655765)) 2) &&& 858993459)) 4)) &&& 252645135) + (kushr (((((x - ((kushr x 1) &&& 1431655765)) &&& 858993459) + ((kushr (x - ((kushr x 1) &&& 1431655765)) 2) &&& 858993459)) + (kushr (((x - ((kushr x 1) &&& 1431655765)) &&& 858993459) + ((kushr (x - ((kushr x 1) &&& 1431655765)) 2) &&& 858993459)) 4)) &&& 252645135) 8)) + (kushr ((((((x - ((kushr x 1) &&& 1431655765)) &&& 858993459) + ((kushr (x - ((kushr x 1) &&& 1431655765)) 2) &&& 858993459)) + (kushr (((x - ((kushr x 1) &&& 1431655765)) &&& 858993459) + ((kushr (x - ((kushr x 1) &&& 1431655765)) 2) &&& 858993459)) 4)) &&& 252645135) + (kushr (((((x - ((kushr x 1) &&& 1431655765)) &&& 858993459) + ((kushr (x - ((kushr x 1) &&& 1431655765)) 2) &&& 858993459)) + (kushr (((x - ((kushr x 1) &&& 1431655765)) &&& 858993459) + ((kushr (x - ((kushr x 1) &&& 1431655765)) 2) &&& 858993459)) 4)) &&& 252645135) 8)) 16)) &&& 63) := rfl
  rw [hf] at hret
  exact hret _ _ _ _ hP hS dJ6_bitCount_0f7a4_52
def v_X6_isStrip_1_0 (strip : Int32) : Int32 := if strip < 0 then 0 else (if 6 ≤ strip then 0 else 1)
def f_X6_isStrip (strip : Int32) : Int32 := (v_X6_isStrip_1_0 strip)
abbrev rm_X6_isStrip : Room := { frames := 0, cells := 0, slots := 0, locals := 0 }
set_option maxRecDepth 100000 in
set_option maxHeartbeats 4000000 in
theorem k_X6_isStrip (l : Launch) (D : va_G) (cI cZ : ClassId) (adK adV : Nat → Nat) (strip : Int32) : CI l D (kTy cI cZ) (kG adK adV) yX6_isStrip (.code yX6_isStrip cX6_isStrip 1 (some .boolean) :: wsL_law) rm_X6_isStrip [.int strip] [] [] (f_X6_isStrip strip) := by
  refine CI.of (cc := cX6_isStrip) (maxL := 1) (ty := .boolean) (by decide) rfl (Nat.le_of_ble_eq_true rfl) (by simp only [v_X6_isStrip_1_0, f_X6_isStrip]; (repeat' split) <;> rfl) ?_
  intro p e s m args below meth c A Q ls hx hb hml hts0 hown hA hP hK hD hE hl hret
  have hts : ∀ w ∈ wsL_law, w.before args s = true := fun w h => hts0 w (List.mem_cons_of_mem _ h)
  clear hts0
  have hown : s.vm.findClass RX6 = some m.cls := hown
  have hl : lv_has ls 1 [(0, .int strip)] := hl
  have hS : va_S A s.heap s.heap [] := va_S.rf
  revert hP hS
  suffices hgo : ∀ (H : Heap) (locs : List Loc), va_P D vwCl [] H → va_S A s.heap H locs → W p l e rm_X6_isStrip s m args below meth c H locs 0 0 Q (F0 m 0 ls []) from fun a b => hgo _ _ a b
  intro H locs hP hS
  refine lv_iload_n hx hb dX6_isStrip_0 rfl (lv_at hl 0 rfl) ?_
  have J1 : ∀ (H : Heap) (locs : List Loc) (ls : Array Slot), va_P D vwCl [] H → va_D A [] → va_S A s.heap H locs → lv_has ls 1 [(0, .int strip)] → W p l e rm_X6_isStrip s m args below meth c H locs 0 0 Q (F0 m 15 ls [.int (v_X6_isStrip_1_0 strip)]) := by
    intro H locs ls hP hD hS hl
    have hf : (f_X6_isStrip strip) = (v_X6_isStrip_1_0 strip) := rfl
    rw [hf] at hret
    exact hret _ _ _ _ hP hS dX6_isStrip_15
  refine lv_if_lt (tgt := 14) hx hb dX6_isStrip_1 (by decide) (fun c_1 => ?_) (fun c_1 => ?_)
  · skip
    refine lv_iconst (v := 0) hx hb dX6_isStrip_14 (by decide) ?_
    rw [show (v_X6_isStrip_1_0 strip) = 0 from (if_pos c_1)] at J1
    exact J1 _ _ _ hP hD hS (lv_sub hl [0] rfl)
  · skip
    refine lv_iload_n hx hb dX6_isStrip_4 rfl (lv_at hl 0 rfl) ?_
    refine lv_bipush (v := 6) hx hb dX6_isStrip_5 (by decide) ?_
    refine lv_icmp_ge (tgt := 14) hx hb dX6_isStrip_7 (by decide) (fun c_7 => ?_) (fun c_7 => ?_)
    · skip
      refine lv_iconst (v := 0) hx hb dX6_isStrip_14 (by decide) ?_
      rw [show (v_X6_isStrip_1_0 strip) = 0 from ((if_neg c_1).trans (if_pos c_7))] at J1
      exact J1 _ _ _ hP hD hS (lv_sub hl [0] rfl)
    · skip
      refine lv_iconst (v := 1) hx hb dX6_isStrip_10 (by decide) ?_
      refine lv_goto (tgt := 15) hx hb dX6_isStrip_11 (by decide) ?_
      rw [show (v_X6_isStrip_1_0 strip) = 1 from ((if_neg c_1).trans (if_neg c_7))] at J1
      exact J1 _ _ _ hP hD hS (lv_sub hl [0] rfl)
def v_X6_isSuch_26_0 (kind : Int32) (taken : Int32) : Int32 := if kind = (taken - 1) then 1 else 0
def v_X6_isSuch_13_0 (kind : Int32) : Int32 := if kind = 3 then 0 else 1
def f_X6_isSuch (kind : Int32) (taken : Int32) : Int32 := if taken = 0 then 1 else (if taken = 1 then (v_X6_isSuch_13_0 kind) else (v_X6_isSuch_26_0 kind taken))
abbrev rm_X6_isSuch : Room := { frames := 0, cells := 0, slots := 0, locals := 0 }
set_option maxRecDepth 100000 in
set_option maxHeartbeats 4000000 in
theorem k_X6_isSuch (l : Launch) (D : va_G) (cI cZ : ClassId) (adK adV : Nat → Nat) (kind : Int32) (taken : Int32) : CI l D (kTy cI cZ) (kG adK adV) yX6_isSuch (.code yX6_isSuch cX6_isSuch 2 (some .boolean) :: wsL_law) rm_X6_isSuch [.int kind, .int taken] [] [] (f_X6_isSuch kind taken) := by
  refine CI.of (cc := cX6_isSuch) (maxL := 2) (ty := .boolean) (by decide) rfl (Nat.le_of_ble_eq_true rfl) (by simp only [v_X6_isSuch_26_0, v_X6_isSuch_13_0, f_X6_isSuch]; (repeat' split) <;> rfl) ?_
  intro p e s m args below meth c A Q ls hx hb hml hts0 hown hA hP hK hD hE hl hret
  have hts : ∀ w ∈ wsL_law, w.before args s = true := fun w h => hts0 w (List.mem_cons_of_mem _ h)
  clear hts0
  have hown : s.vm.findClass RX6 = some m.cls := hown
  have hl : lv_has ls 2 [(0, .int kind), (1, .int taken)] := hl
  have hS : va_S A s.heap s.heap [] := va_S.rf
  revert hP hS
  suffices hgo : ∀ (H : Heap) (locs : List Loc), va_P D vwCl [] H → va_S A s.heap H locs → W p l e rm_X6_isSuch s m args below meth c H locs 0 0 Q (F0 m 0 ls []) from fun a b => hgo _ _ a b
  intro H locs hP hS
  refine lv_iload_n hx hb dX6_isSuch_0 rfl (lv_at hl 1 rfl) ?_
  refine lv_if_ne (tgt := 6) hx hb dX6_isSuch_1 (by decide) (fun c_1 => ?_) (fun c_1 => ?_)
  · skip
    refine lv_iload_n hx hb dX6_isSuch_6 rfl (lv_at hl 1 rfl) ?_
    refine lv_iconst (v := 1) hx hb dX6_isSuch_7 (by decide) ?_
    refine lv_icmp_ne (tgt := 22) hx hb dX6_isSuch_8 (by decide) (fun c_8 => ?_) (fun c_8 => ?_)
    · skip
      refine lv_iload_n hx hb dX6_isSuch_22 rfl (lv_at hl 0 rfl) ?_
      refine lv_iload_n hx hb dX6_isSuch_23 rfl (lv_at hl 1 rfl) ?_
      refine lv_iconst (v := 1) hx hb dX6_isSuch_24 (by decide) ?_
      refine lv_isub hx hb dX6_isSuch_25 ?_
      have J26 : ∀ (H : Heap) (locs : List Loc) (ls : Array Slot), va_P D vwCl [] H → va_D A [] → va_S A s.heap H locs → lv_has ls 2 [(0, .int kind), (1, .int taken)] → W p l e rm_X6_isSuch s m args below meth c H locs 0 0 Q (F0 m 34 ls [.int (v_X6_isSuch_26_0 kind taken)]) := by
        intro H locs ls hP hD hS hl
        have hf : (f_X6_isSuch kind taken) = (v_X6_isSuch_26_0 kind taken) := ((if_neg c_1).trans (if_neg c_8))
        rw [hf] at hret
        exact hret _ _ _ _ hP hS dX6_isSuch_34
      refine lv_icmp_ne (tgt := 33) hx hb dX6_isSuch_26 (by decide) (fun c_26 => ?_) (fun c_26 => ?_)
      · skip
        refine lv_iconst (v := 0) hx hb dX6_isSuch_33 (by decide) ?_
        rw [show (v_X6_isSuch_26_0 kind taken) = 0 from (if_neg c_26)] at J26
        exact J26 _ _ _ hP hD hS (lv_sub hl [0, 1] rfl)
      · skip
        refine lv_iconst (v := 1) hx hb dX6_isSuch_29 (by decide) ?_
        refine lv_goto (tgt := 34) hx hb dX6_isSuch_30 (by decide) ?_
        rw [show (v_X6_isSuch_26_0 kind taken) = 1 from (if_pos c_26)] at J26
        exact J26 _ _ _ hP hD hS (lv_sub hl [0, 1] rfl)
    · skip
      refine lv_iload_n hx hb dX6_isSuch_11 rfl (lv_at hl 0 rfl) ?_
      refine lv_iconst (v := 3) hx hb dX6_isSuch_12 (by decide) ?_
      have J13 : ∀ (H : Heap) (locs : List Loc) (ls : Array Slot), va_P D vwCl [] H → va_D A [] → va_S A s.heap H locs → lv_has ls 2 [(0, .int kind), (1, .int taken)] → W p l e rm_X6_isSuch s m args below meth c H locs 0 0 Q (F0 m 21 ls [.int (v_X6_isSuch_13_0 kind)]) := by
        intro H locs ls hP hD hS hl
        have hf : (f_X6_isSuch kind taken) = (v_X6_isSuch_13_0 kind) := ((if_neg c_1).trans (if_pos c_8))
        rw [hf] at hret
        exact hret _ _ _ _ hP hS dX6_isSuch_21
      refine lv_icmp_eq (tgt := 20) hx hb dX6_isSuch_13 (by decide) (fun c_13 => ?_) (fun c_13 => ?_)
      · skip
        refine lv_iconst (v := 0) hx hb dX6_isSuch_20 (by decide) ?_
        rw [show (v_X6_isSuch_13_0 kind) = 0 from (if_pos c_13)] at J13
        exact J13 _ _ _ hP hD hS (lv_sub hl [0, 1] rfl)
      · skip
        refine lv_iconst (v := 1) hx hb dX6_isSuch_16 (by decide) ?_
        refine lv_goto (tgt := 21) hx hb dX6_isSuch_17 (by decide) ?_
        rw [show (v_X6_isSuch_13_0 kind) = 1 from (if_neg c_13)] at J13
        exact J13 _ _ _ hP hD hS (lv_sub hl [0, 1] rfl)
  · skip
    refine lv_iconst (v := 1) hx hb dX6_isSuch_4 (by decide) ?_
    have hf : (f_X6_isSuch kind taken) = 1 := (if_pos c_1)
    rw [hf] at hret
    exact hret _ _ _ _ hP hS dX6_isSuch_5
def v_X6_telling_30_0 (beard : Int32) (part : Int32) : Int32 := if 3 ≤ beard then part else (-1)
def v_X6_telling_41_0 (strip : Int32) (part : Int32) : Int32 := if strip = 2 then (-1) else part
def v_X6_telling_52_0 (beard : Int32) (part : Int32) : Int32 := if 5 ≤ beard then (1 - part) else part
def f_X6_telling (kind : Int32) (strip : Int32) (beard : Int32) (part : Int32) : Int32 := if kind = 1 then (v_X6_telling_30_0 beard part) else (if kind = 2 then (v_X6_telling_41_0 strip part) else (if kind = 3 then (v_X6_telling_52_0 beard part) else part))
abbrev rm_X6_telling : Room := { frames := 0, cells := 0, slots := 0, locals := 0 }
set_option maxRecDepth 100000 in
set_option maxHeartbeats 4000000 in
theorem k_X6_telling (l : Launch) (D : va_G) (cI cZ : ClassId) (adK adV : Nat → Nat) (kind : Int32) (strip : Int32) (beard : Int32) (part : Int32) : CI l D (kTy cI cZ) (kG adK adV) yX6_telling (.code yX6_telling cX6_telling 4 (some .int) :: wsL_law) rm_X6_telling [.int kind, .int strip, .int beard, .int part] [] [] (f_X6_telling kind strip beard part) := by
  refine CI.of (cc := cX6_telling) (maxL := 4) (ty := .int) (by decide) rfl (Nat.le_of_ble_eq_true rfl) rfl ?_
  intro p e s m args below meth c A Q ls hx hb hml hts0 hown hA hP hK hD hE hl hret
  have hts : ∀ w ∈ wsL_law, w.before args s = true := fun w h => hts0 w (List.mem_cons_of_mem _ h)
  clear hts0
  have hown : s.vm.findClass RX6 = some m.cls := hown
  have hl : lv_has ls 4 [(0, .int kind), (1, .int strip), (2, .int beard), (3, .int part)] := hl
  have hS : va_S A s.heap s.heap [] := va_S.rf
  revert hP hS
  suffices hgo : ∀ (H : Heap) (locs : List Loc), va_P D vwCl [] H → va_S A s.heap H locs → W p l e rm_X6_telling s m args below meth c H locs 0 0 Q (F0 m 0 ls []) from fun a b => hgo _ _ a b
  intro H locs hP hS
  refine lv_iload_n hx hb dX6_telling_0 rfl (lv_at hl 0 rfl) ?_
  by_cases c_1_0 : kind = 1
  · skip
    refine lv_tableIn (off := 27) (tgt := 28) hx hb dX6_telling_1 (by rw [c_1_0]; decide) (by rw [c_1_0]; decide) (by rw [c_1_0]; rfl) (by decide) ?_
    refine lv_iload_n hx hb dX6_telling_28 rfl (lv_at hl 2 rfl) ?_
    refine lv_iconst (v := 3) hx hb dX6_telling_29 (by decide) ?_
    have J30 : ∀ (H : Heap) (locs : List Loc) (ls : Array Slot), va_P D vwCl [] H → va_D A [] → va_S A s.heap H locs → lv_has ls 4 [(0, .int kind), (1, .int strip), (2, .int beard), (3, .int part)] → W p l e rm_X6_telling s m args below meth c H locs 0 0 Q (F0 m 38 ls [.int (v_X6_telling_30_0 beard part)]) := by
      intro H locs ls hP hD hS hl
      have hf : (f_X6_telling kind strip beard part) = (v_X6_telling_30_0 beard part) := (if_pos c_1_0)
      rw [hf] at hret
      exact hret _ _ _ _ hP hS dX6_telling_38
    refine lv_icmp_ge (tgt := 37) hx hb dX6_telling_30 (by decide) (fun c_30 => ?_) (fun c_30 => ?_)
    · skip
      refine lv_iload_n hx hb dX6_telling_37 rfl (lv_at hl 3 rfl) ?_
      rw [show (v_X6_telling_30_0 beard part) = part from (if_pos c_30)] at J30
      exact J30 _ _ _ hP hD hS (lv_sub hl [0, 1, 2, 3] rfl)
    · skip
      refine lv_iconst (v := (-1)) hx hb dX6_telling_33 (by decide) ?_
      refine lv_goto (tgt := 38) hx hb dX6_telling_34 (by decide) ?_
      rw [show (v_X6_telling_30_0 beard part) = (-1) from (if_neg c_30)] at J30
      exact J30 _ _ _ hP hD hS (lv_sub hl [0, 1, 2, 3] rfl)
  · skip
    by_cases c_1_1 : kind = 2
    · skip
      refine lv_tableIn (off := 38) (tgt := 39) hx hb dX6_telling_1 (by rw [c_1_1]; decide) (by rw [c_1_1]; decide) (by rw [c_1_1]; rfl) (by decide) ?_
      refine lv_iload_n hx hb dX6_telling_39 rfl (lv_at hl 1 rfl) ?_
      refine lv_iconst (v := 2) hx hb dX6_telling_40 (by decide) ?_
      have J41 : ∀ (H : Heap) (locs : List Loc) (ls : Array Slot), va_P D vwCl [] H → va_D A [] → va_S A s.heap H locs → lv_has ls 4 [(0, .int kind), (1, .int strip), (2, .int beard), (3, .int part)] → W p l e rm_X6_telling s m args below meth c H locs 0 0 Q (F0 m 49 ls [.int (v_X6_telling_41_0 strip part)]) := by
        intro H locs ls hP hD hS hl
        have hf : (f_X6_telling kind strip beard part) = (v_X6_telling_41_0 strip part) := ((if_neg c_1_0).trans (if_pos c_1_1))
        rw [hf] at hret
        exact hret _ _ _ _ hP hS dX6_telling_49
      refine lv_icmp_ne (tgt := 48) hx hb dX6_telling_41 (by decide) (fun c_41 => ?_) (fun c_41 => ?_)
      · skip
        refine lv_iload_n hx hb dX6_telling_48 rfl (lv_at hl 3 rfl) ?_
        rw [show (v_X6_telling_41_0 strip part) = part from (if_neg c_41)] at J41
        exact J41 _ _ _ hP hD hS (lv_sub hl [0, 1, 2, 3] rfl)
      · skip
        refine lv_iconst (v := (-1)) hx hb dX6_telling_44 (by decide) ?_
        refine lv_goto (tgt := 49) hx hb dX6_telling_45 (by decide) ?_
        rw [show (v_X6_telling_41_0 strip part) = (-1) from (if_pos c_41)] at J41
        exact J41 _ _ _ hP hD hS (lv_sub hl [0, 1, 2, 3] rfl)
    · skip
      by_cases c_1_2 : kind = 3
      · skip
        refine lv_tableIn (off := 49) (tgt := 50) hx hb dX6_telling_1 (by rw [c_1_2]; decide) (by rw [c_1_2]; decide) (by rw [c_1_2]; rfl) (by decide) ?_
        refine lv_iload_n hx hb dX6_telling_50 rfl (lv_at hl 2 rfl) ?_
        refine lv_iconst (v := 5) hx hb dX6_telling_51 (by decide) ?_
        have J52 : ∀ (H : Heap) (locs : List Loc) (ls : Array Slot), va_P D vwCl [] H → va_D A [] → va_S A s.heap H locs → lv_has ls 4 [(0, .int kind), (1, .int strip), (2, .int beard), (3, .int part)] → W p l e rm_X6_telling s m args below meth c H locs 0 0 Q (F0 m 62 ls [.int (v_X6_telling_52_0 beard part)]) := by
          intro H locs ls hP hD hS hl
          have hf : (f_X6_telling kind strip beard part) = (v_X6_telling_52_0 beard part) := ((if_neg c_1_0).trans ((if_neg c_1_1).trans (if_pos c_1_2)))
          rw [hf] at hret
          exact hret _ _ _ _ hP hS dX6_telling_62
        refine lv_icmp_ge (tgt := 59) hx hb dX6_telling_52 (by decide) (fun c_52 => ?_) (fun c_52 => ?_)
        · skip
          refine lv_iconst (v := 1) hx hb dX6_telling_59 (by decide) ?_
          refine lv_iload_n hx hb dX6_telling_60 rfl (lv_at hl 3 rfl) ?_
          refine lv_isub hx hb dX6_telling_61 ?_
          rw [show (v_X6_telling_52_0 beard part) = (1 - part) from (if_pos c_52)] at J52
          exact J52 _ _ _ hP hD hS (lv_sub hl [0, 1, 2, 3] rfl)
        · skip
          refine lv_iload_n hx hb dX6_telling_55 rfl (lv_at hl 3 rfl) ?_
          refine lv_goto (tgt := 62) hx hb dX6_telling_56 (by decide) ?_
          rw [show (v_X6_telling_52_0 beard part) = part from (if_neg c_52)] at J52
          exact J52 _ _ _ hP hD hS (lv_sub hl [0, 1, 2, 3] rfl)
      · skip
        have htab : kind.toInt < 1 ∨ 3 < kind.toInt := by
          have a0 : kind.toInt ≠ 1 := kneI c_1_0
          have a1 : kind.toInt ≠ 2 := kneI c_1_1
          have a2 : kind.toInt ≠ 3 := kneI c_1_2
          omega
        refine lv_tableOut (tgt := 63) hx hb dX6_telling_1 htab (by decide) ?_
        refine lv_iload_n hx hb dX6_telling_63 rfl (lv_at hl 3 rfl) ?_
        have hf : (f_X6_telling kind strip beard part) = part := ((if_neg c_1_0).trans ((if_neg c_1_1).trans (if_neg c_1_2)))
        rw [hf] at hret
        exact hret _ _ _ _ hP hS dX6_telling_64
def v_X6_has_6_0 (bits : Int32) (place : Int32) : Int32 := if ((bits >>> (place &&& 31)) &&& 1) = 1 then 1 else 0
def f_X6_has (bits : Int32) (place : Int32) : Int32 := (v_X6_has_6_0 bits place)
abbrev rm_X6_has : Room := { frames := 0, cells := 0, slots := 0, locals := 0 }
set_option maxRecDepth 100000 in
set_option maxHeartbeats 4000000 in
theorem k_X6_has (l : Launch) (D : va_G) (cI cZ : ClassId) (adK adV : Nat → Nat) (bits : Int32) (place : Int32) : CI l D (kTy cI cZ) (kG adK adV) yX6_has (.code yX6_has cX6_has 2 (some .boolean) :: wsL_law) rm_X6_has [.int bits, .int place] [] [] (f_X6_has bits place) := by
  refine CI.of (cc := cX6_has) (maxL := 2) (ty := .boolean) (by decide) rfl (Nat.le_of_ble_eq_true rfl) (by simp only [v_X6_has_6_0, f_X6_has]; (repeat' split) <;> rfl) ?_
  intro p e s m args below meth c A Q ls hx hb hml hts0 hown hA hP hK hD hE hl hret
  have hts : ∀ w ∈ wsL_law, w.before args s = true := fun w h => hts0 w (List.mem_cons_of_mem _ h)
  clear hts0
  have hown : s.vm.findClass RX6 = some m.cls := hown
  have hl : lv_has ls 2 [(0, .int bits), (1, .int place)] := hl
  have hS : va_S A s.heap s.heap [] := va_S.rf
  revert hP hS
  suffices hgo : ∀ (H : Heap) (locs : List Loc), va_P D vwCl [] H → va_S A s.heap H locs → W p l e rm_X6_has s m args below meth c H locs 0 0 Q (F0 m 0 ls []) from fun a b => hgo _ _ a b
  intro H locs hP hS
  refine lv_iload_n hx hb dX6_has_0 rfl (lv_at hl 0 rfl) ?_
  refine lv_iload_n hx hb dX6_has_1 rfl (lv_at hl 1 rfl) ?_
  refine lv_ishr hx hb dX6_has_2 ?_
  refine lv_iconst (v := 1) hx hb dX6_has_3 (by decide) ?_
  refine lv_iand hx hb dX6_has_4 ?_
  refine lv_iconst (v := 1) hx hb dX6_has_5 (by decide) ?_
  have J6 : ∀ (H : Heap) (locs : List Loc) (ls : Array Slot), va_P D vwCl [] H → va_D A [] → va_S A s.heap H locs → lv_has ls 2 [(0, .int bits), (1, .int place)] → W p l e rm_X6_has s m args below meth c H locs 0 0 Q (F0 m 14 ls [.int (v_X6_has_6_0 bits place)]) := by
    intro H locs ls hP hD hS hl
    have hf : (f_X6_has bits place) = (v_X6_has_6_0 bits place) := rfl
    rw [hf] at hret
    exact hret _ _ _ _ hP hS dX6_has_14
  refine lv_icmp_ne (tgt := 13) hx hb dX6_has_6 (by decide) (fun c_6 => ?_) (fun c_6 => ?_)
  · skip
    refine lv_iconst (v := 0) hx hb dX6_has_13 (by decide) ?_
    rw [show (v_X6_has_6_0 bits place) = 0 from (if_neg c_6)] at J6
    exact J6 _ _ _ hP hD hS (lv_sub hl [0, 1] rfl)
  · skip
    refine lv_iconst (v := 1) hx hb dX6_has_9 (by decide) ?_
    refine lv_goto (tgt := 14) hx hb dX6_has_10 (by decide) ?_
    rw [show (v_X6_has_6_0 bits place) = 1 from (if_pos c_6)] at J6
    exact J6 _ _ _ hP hD hS (lv_sub hl [0, 1] rfl)
def f_X6_replaced (bits : Int32) (places : Int32) (by_ : Int32) : Int32 := ((bits &&& (places ^^^ (-1))) ||| (by_ &&& places))
abbrev rm_X6_replaced : Room := { frames := 0, cells := 0, slots := 0, locals := 0 }
set_option maxRecDepth 100000 in
set_option maxHeartbeats 4000000 in
theorem k_X6_replaced (l : Launch) (D : va_G) (cI cZ : ClassId) (adK adV : Nat → Nat) (bits : Int32) (places : Int32) (by_ : Int32) : CI l D (kTy cI cZ) (kG adK adV) yX6_replaced (.code yX6_replaced cX6_replaced 3 (some .int) :: wsL_law) rm_X6_replaced [.int bits, .int places, .int by_] [] [] (f_X6_replaced bits places by_) := by
  refine CI.of (cc := cX6_replaced) (maxL := 3) (ty := .int) (by decide) rfl (Nat.le_of_ble_eq_true rfl) rfl ?_
  intro p e s m args below meth c A Q ls hx hb hml hts0 hown hA hP hK hD hE hl hret
  have hts : ∀ w ∈ wsL_law, w.before args s = true := fun w h => hts0 w (List.mem_cons_of_mem _ h)
  clear hts0
  have hown : s.vm.findClass RX6 = some m.cls := hown
  have hl : lv_has ls 3 [(0, .int bits), (1, .int places), (2, .int by_)] := hl
  have hS : va_S A s.heap s.heap [] := va_S.rf
  revert hP hS
  suffices hgo : ∀ (H : Heap) (locs : List Loc), va_P D vwCl [] H → va_S A s.heap H locs → W p l e rm_X6_replaced s m args below meth c H locs 0 0 Q (F0 m 0 ls []) from fun a b => hgo _ _ a b
  intro H locs hP hS
  refine lv_iload_n hx hb dX6_replaced_0 rfl (lv_at hl 0 rfl) ?_
  refine lv_iload_n hx hb dX6_replaced_1 rfl (lv_at hl 1 rfl) ?_
  refine lv_iconst (v := (-1)) hx hb dX6_replaced_2 (by decide) ?_
  refine lv_ixor hx hb dX6_replaced_3 ?_
  refine lv_iand hx hb dX6_replaced_4 ?_
  refine lv_iload_n hx hb dX6_replaced_5 rfl (lv_at hl 2 rfl) ?_
  refine lv_iload_n hx hb dX6_replaced_6 rfl (lv_at hl 1 rfl) ?_
  refine lv_iand hx hb dX6_replaced_7 ?_
  refine lv_ior hx hb dX6_replaced_8 ?_
  have hf : (f_X6_replaced bits places by_) = ((bits &&& (places ^^^ (-1))) ||| (by_ &&& places)) := rfl
  rw [hf] at hret
  exact hret _ _ _ _ hP hS dX6_replaced_9
def nx_X6_power_4 (base : Int32) (i : Nat) (x4_2 : Int32) : Int32 := (x4_2 * base)
def x_X6_power_4 (base : Int32) (exponent : Int32) : Int32 := lp (fun iz z => nx_X6_power_4 base iz z) 1 exponent.toNatClampNeg
def f_X6_power (base : Int32) (exponent : Int32) : Int32 := (x_X6_power_4 base exponent)
abbrev rm_X6_power : Room := { frames := 0, cells := 0, slots := 0, locals := 0 }
set_option maxRecDepth 100000 in
set_option maxHeartbeats 4000000 in
theorem k_X6_power (l : Launch) (D : va_G) (cI cZ : ClassId) (adK adV : Nat → Nat) (base : Int32) (exponent : Int32) : CI l D (kTy cI cZ) (kG adK adV) yX6_power (.code yX6_power cX6_power 4 (some .int) :: wsL_law) rm_X6_power [.int base, .int exponent] [] [] (f_X6_power base exponent) := by
  refine CI.of (cc := cX6_power) (maxL := 4) (ty := .int) (by decide) rfl (Nat.le_of_ble_eq_true rfl) rfl ?_
  intro p e s m args below meth c A Q ls hx hb hml hts0 hown hA hP hK hD hE hl hret
  have hts : ∀ w ∈ wsL_law, w.before args s = true := fun w h => hts0 w (List.mem_cons_of_mem _ h)
  clear hts0
  have hown : s.vm.findClass RX6 = some m.cls := hown
  have hl : lv_has ls 4 [(0, .int base), (1, .int exponent)] := hl
  have hS : va_S A s.heap s.heap [] := va_S.rf
  revert hP hS
  suffices hgo : ∀ (H : Heap) (locs : List Loc), va_P D vwCl [] H → va_S A s.heap H locs → W p l e rm_X6_power s m args below meth c H locs 0 0 Q (F0 m 0 ls []) from fun a b => hgo _ _ a b
  intro H locs hP hS
  refine lv_iconst (v := 1) hx hb dX6_power_0 (by decide) ?_
  refine lv_istore_n (lv' := [(2, .int 1), (0, .int base), (1, .int exponent)]) hx hb dX6_power_1 rfl hl (by decide) rfl (fun ls hl => ?_)
  refine lv_iconst (v := 0) hx hb dX6_power_2 (by decide) ?_
  refine lv_istore_n (lv' := [(3, .int 0), (2, .int 1), (0, .int base), (1, .int exponent)]) hx hb dX6_power_3 rfl hl (by decide) rfl (fun ls hl => ?_)
  have lp4 : ∀ (k4 i : Nat) (x4_2 : Int32), i + k4 = exponent.toNatClampNeg → x4_2 = lp (fun iz z => nx_X6_power_4 base iz z) 1 i → ∀ (H : Heap) (locs : List Loc) (ls : Array Slot), va_P D vwCl [] H → va_D A [] → va_S A s.heap H locs → lv_has ls 4 [(0, .int base), (1, .int exponent), (2, .int x4_2), (3, .int (nI i))] → W p l e rm_X6_power s m args below meth c H locs 0 0 Q (F0 m 4 ls []) := by
    intro k4
    induction k4 with
    | zero =>
      intro i x4_2 hi4 ea4 H locs ls hP hD hS hl
      have hi4 : exponent.toNatClampNeg = i := by omega
      subst hi4
      have ea4 : x4_2 = (x_X6_power_4 base exponent) := ea4
      subst ea4
      refine lv_iload_n hx hb dX6_power_4 rfl (lv_at hl 3 rfl) ?_
      refine lv_iload_n hx hb dX6_power_5 rfl (lv_at hl 1 rfl) ?_
      refine lv_icmp_ge (tgt := 19) hx hb dX6_power_6 (by decide) (fun _ => ?_) (fun c_6 => absurd (kle_clamp _) c_6)
      refine lv_iload_n hx hb dX6_power_19 rfl (lv_at hl 2 rfl) ?_
      have hf : (f_X6_power base exponent) = (x_X6_power_4 base exponent) := rfl
      rw [hf] at hret
      exact hret _ _ _ _ hP hS dX6_power_20
    | succ k4 ih4 =>
      intro i x4_2 hi4 ea4 H locs ls hP hD hS hl
      have hlt4 : i < exponent.toNatClampNeg := by omega
      refine lv_iload_n hx hb dX6_power_4 rfl (lv_at hl 3 rfl) ?_
      refine lv_iload_n hx hb dX6_power_5 rfl (lv_at hl 1 rfl) ?_
      refine lv_icmp_ge (tgt := 19) hx hb dX6_power_6 (by decide) (fun c_6 => absurd c_6 (klt_clamp hlt4)) (fun _ => ?_)
      refine lv_iload_n hx hb dX6_power_9 rfl (lv_at hl 2 rfl) ?_
      refine lv_iload_n hx hb dX6_power_10 rfl (lv_at hl 0 rfl) ?_
      refine lv_imul hx hb dX6_power_11 ?_
      refine lv_istore_n (lv' := [(2, .int (x4_2 * base)), (0, .int base), (1, .int exponent), (3, .int (nI i))]) hx hb dX6_power_12 rfl hl (by decide) rfl (fun ls hl => ?_)
      refine lv_iinc (v := (nI (i + 1))) (lv' := [(3, .int (nI (i + 1))), (2, .int (x4_2 * base)), (0, .int base), (1, .int exponent)]) hx hb dX6_power_13 hl (k := 3) rfl (nI_1 i) (by decide) rfl (fun ls hl => ?_)
      refine lv_goto (tgt := 4) hx hb dX6_power_16 (by decide) ?_
      have hb4 : nx_X6_power_4 base i x4_2 = (x4_2 * base) := rfl
      have hs4 : (lp (fun iz z => nx_X6_power_4 base iz z) 1 (i + 1) : Int32) = nx_X6_power_4 base i (lp (fun iz z => nx_X6_power_4 base iz z) 1 i : Int32) := lp_succ _ _ _
      rw [← ea4] at hs4
      exact ih4 (i + 1) (x4_2 * base) (by omega) (hb4.symm.trans hs4.symm) _ _ _ hP hD hS (lv_sub hl [2, 3, 1, 0] rfl)
  exact lp4 exponent.toNatClampNeg 0 1 (Nat.zero_add _) (lp_zero _ _).symm _ _ _ hP hD hS (lv_sub hl [2, 3, 1, 0] rfl)
def f_X6_weight (set_ : Int32) (qq : Int32) : Int32 := ((f_X6_power qq (f_J6_bitCount_0f7a4 set_)) * (f_X6_power (10 - qq) (6 - (f_J6_bitCount_0f7a4 set_))))
abbrev rm_X6_weight : Room := { frames := 1, cells := 0, slots := 0, locals := 23 }
set_option maxRecDepth 100000 in
set_option maxHeartbeats 4000000 in
theorem k_X6_weight (l : Launch) (D : va_G) (cI cZ : ClassId) (adK adV : Nat → Nat) (set_ : Int32) (qq : Int32) : CI l D (kTy cI cZ) (kG adK adV) yX6_weight (.code yX6_weight cX6_weight 3 (some .int) :: wsL_law) rm_X6_weight [.int set_, .int qq] [] [] (f_X6_weight set_ qq) := by
  refine CI.of (cc := cX6_weight) (maxL := 3) (ty := .int) (by decide) rfl (Nat.le_of_ble_eq_true rfl) rfl ?_
  intro p e s m args below meth c A Q ls hx hb hml hts0 hown hA hP hK hD hE hl hret
  have hts : ∀ w ∈ wsL_law, w.before args s = true := fun w h => hts0 w (List.mem_cons_of_mem _ h)
  clear hts0
  have hown : s.vm.findClass RX6 = some m.cls := hown
  have hl : lv_has ls 3 [(0, .int set_), (1, .int qq)] := hl
  have hS : va_S A s.heap s.heap [] := va_S.rf
  revert hP hS
  suffices hgo : ∀ (H : Heap) (locs : List Loc), va_P D vwCl [] H → va_S A s.heap H locs → W p l e rm_X6_weight s m args below meth c H locs 0 0 Q (F0 m 0 ls []) from fun a b => hgo _ _ a b
  intro H locs hP hS
  refine lv_iload_n hx hb dX6_weight_0 rfl (lv_at hl 0 rfl) ?_
  refine ksi (As := [.int set_]) (rest := []) ⟨hx, hb, hml, hown, hts⟩ hP hK hD hS hA hE (k_J6_bitCount_0f7a4 l D cI cZ adK adV set_) (kcs hts kM_J6_bitCount_0f7a4 (kin_26 _ (List.mem_of_getElem? (i := 13) rfl)) ⟨rfl, rfl⟩ ⟨Nat.le_of_ble_eq_true rfl, Nat.le_of_ble_eq_true rfl⟩) kBl_G kOk_G rfl hl.1 rfl (Nat.le_of_ble_eq_true rfl) dX6_weight_1 (fun H locs hP hD hS => ?_)
  refine lv_istore_n (lv' := [(2, .int (f_J6_bitCount_0f7a4 set_)), (0, .int set_), (1, .int qq)]) hx hb dX6_weight_4 rfl hl (by decide) rfl (fun ls hl => ?_)
  refine lv_iload_n hx hb dX6_weight_5 rfl (lv_at hl 2 rfl) ?_
  refine lv_iload_n hx hb dX6_weight_6 rfl (lv_at hl 0 rfl) ?_
  refine ksi (As := [.int qq, .int (f_J6_bitCount_0f7a4 set_)]) (rest := []) ⟨hx, hb, hml, hown, hts⟩ hP hK hD hS hA hE (k_X6_power l D cI cZ adK adV qq (f_J6_bitCount_0f7a4 set_)) (kcs hts kM_X6_power (kin_33 _ (List.mem_of_getElem? (i := 3) rfl)) ⟨rfl, rfl⟩ ⟨Nat.le_of_ble_eq_true rfl, Nat.le_of_ble_eq_true rfl⟩) kBl_G kOk_G rfl hl.1 rfl (Nat.le_of_ble_eq_true rfl) dX6_weight_7 (fun H locs hP hD hS => ?_)
  refine lv_bipush (v := 10) hx hb dX6_weight_10 (by decide) ?_
  refine lv_iload_n hx hb dX6_weight_12 rfl (lv_at hl 2 rfl) ?_
  refine lv_isub hx hb dX6_weight_13 ?_
  refine lv_bipush (v := 6) hx hb dX6_weight_14 (by decide) ?_
  refine lv_iload_n hx hb dX6_weight_16 rfl (lv_at hl 0 rfl) ?_
  refine lv_isub hx hb dX6_weight_17 ?_
  refine ksi (As := [.int (10 - qq), .int (6 - (f_J6_bitCount_0f7a4 set_))]) (rest := [.int (f_X6_power qq (f_J6_bitCount_0f7a4 set_))]) ⟨hx, hb, hml, hown, hts⟩ hP hK hD hS hA hE (k_X6_power l D cI cZ adK adV (10 - qq) (6 - (f_J6_bitCount_0f7a4 set_))) (kcs hts kM_X6_power (kin_33 _ (List.mem_of_getElem? (i := 3) rfl)) ⟨rfl, rfl⟩ ⟨Nat.le_of_ble_eq_true rfl, Nat.le_of_ble_eq_true rfl⟩) kBl_G kOk_G rfl hl.1 rfl (Nat.le_of_ble_eq_true rfl) dX6_weight_18 (fun H locs hP hD hS => ?_)
  refine lv_imul hx hb dX6_weight_21 ?_
  have hf : (f_X6_weight set_ qq) = ((f_X6_power qq (f_J6_bitCount_0f7a4 set_)) * (f_X6_power (10 - qq) (6 - (f_J6_bitCount_0f7a4 set_)))) := rfl
  rw [hf] at hret
  exact hret _ _ _ _ hP hS dX6_weight_22
def lo_X6_commonDivisor_7 : Nat → Nat → Int32 → Int32 → Int32
  | 0, i, x7_2, x7_3 => x7_2
  | k7 + 1, i, x7_2, x7_3 => if x7_3 = 0 then x7_2 else (lo_X6_commonDivisor_7 k7 (i + 1) x7_3 (x7_2 - ((x7_2 / x7_3) * x7_3)))
def f_X6_commonDivisor (one : Int32) (other : Int32) : Int32 := lo_X6_commonDivisor_7 64 0 one other
abbrev rm_X6_commonDivisor : Room := { frames := 0, cells := 0, slots := 0, locals := 0 }
set_option maxRecDepth 100000 in
set_option maxHeartbeats 4000000 in
theorem k_X6_commonDivisor (l : Launch) (D : va_G) (cI cZ : ClassId) (adK adV : Nat → Nat) (one : Int32) (other : Int32) : CI l D (kTy cI cZ) (kG adK adV) yX6_commonDivisor (.code yX6_commonDivisor cX6_commonDivisor 6 (some .int) :: wsL_law) rm_X6_commonDivisor [.int one, .int other] [] [] (f_X6_commonDivisor one other) := by
  refine CI.of (cc := cX6_commonDivisor) (maxL := 6) (ty := .int) (by decide) rfl (Nat.le_of_ble_eq_true rfl) rfl ?_
  intro p e s m args below meth c A Q ls hx hb hml hts0 hown hA hP hK hD hE hl hret
  have hts : ∀ w ∈ wsL_law, w.before args s = true := fun w h => hts0 w (List.mem_cons_of_mem _ h)
  clear hts0
  have hown : s.vm.findClass RX6 = some m.cls := hown
  have hl : lv_has ls 6 [(0, .int one), (1, .int other)] := hl
  have hS : va_S A s.heap s.heap [] := va_S.rf
  revert hP hS
  suffices hgo : ∀ (H : Heap) (locs : List Loc), va_P D vwCl [] H → va_S A s.heap H locs → W p l e rm_X6_commonDivisor s m args below meth c H locs 0 0 Q (F0 m 0 ls []) from fun a b => hgo _ _ a b
  intro H locs hP hS
  refine lv_iload_n hx hb dX6_commonDivisor_0 rfl (lv_at hl 0 rfl) ?_
  refine lv_istore_n (lv' := [(2, .int one), (0, .int one), (1, .int other)]) hx hb dX6_commonDivisor_1 rfl hl (by decide) rfl (fun ls hl => ?_)
  refine lv_iload_n hx hb dX6_commonDivisor_2 rfl (lv_at hl 2 rfl) ?_
  refine lv_istore_n (lv' := [(3, .int other), (2, .int one), (0, .int one), (1, .int other)]) hx hb dX6_commonDivisor_3 rfl hl (by decide) rfl (fun ls hl => ?_)
  refine lv_iconst (v := 0) hx hb dX6_commonDivisor_4 (by decide) ?_
  refine lv_istore (lv' := [(4, .int 0), (3, .int other), (2, .int one), (0, .int one), (1, .int other)]) hx hb dX6_commonDivisor_5 hl (by decide) rfl (fun ls hl => ?_)
  have lp7 : ∀ (k7 i : Nat) (x7_2 : Int32) (x7_3 : Int32), i + k7 = 64 → lo_X6_commonDivisor_7 k7 i x7_2 x7_3 = (f_X6_commonDivisor one other) → ∀ (H : Heap) (locs : List Loc) (ls : Array Slot), va_P D vwCl [] H → va_D A [] → va_S A s.heap H locs → lv_has ls 6 [(0, .int one), (1, .int other), (2, .int x7_2), (3, .int x7_3), (4, .int (nI i))] → W p l e rm_X6_commonDivisor s m args below meth c H locs 0 0 Q (F0 m 7 ls []) := by
    intro k7
    induction k7 with
    | zero =>
      intro i x7_2 x7_3 hi7 ea7 H locs ls hP hD hS hl
      have hi7 : 64 = i := by omega
      subst hi7
      refine lv_iload hx hb dX6_commonDivisor_7 (lv_at hl 4 rfl) ?_
      refine lv_bipush (v := 64) hx hb dX6_commonDivisor_9 (by decide) ?_
      refine lv_icmp_ge (tgt := 34) hx hb dX6_commonDivisor_11 (by decide) (fun _ => ?_) (fun c_11 => absurd (nI_le (Nat.le_refl _) (by decide)) c_11)
      refine lv_iload_n hx hb dX6_commonDivisor_34 rfl (lv_at hl 2 rfl) ?_
      have hf : (f_X6_commonDivisor one other) = x7_2 := (ea7).symm.trans rfl
      rw [hf] at hret
      exact hret _ _ _ _ hP hS dX6_commonDivisor_35
    | succ k7 ih7 =>
      intro i x7_2 x7_3 hi7 ea7 H locs ls hP hD hS hl
      have hlt7 : i < 64 := by omega
      refine lv_iload hx hb dX6_commonDivisor_7 (lv_at hl 4 rfl) ?_
      refine lv_bipush (v := 64) hx hb dX6_commonDivisor_9 (by decide) ?_
      refine lv_icmp_ge (tgt := 34) hx hb dX6_commonDivisor_11 (by decide) (fun c_11 => absurd c_11 (nI_ge hlt7 (by decide))) (fun _ => ?_)
      refine lv_iload_n hx hb dX6_commonDivisor_14 rfl (lv_at hl 3 rfl) ?_
      refine lv_if_eq (tgt := 34) hx hb dX6_commonDivisor_15 (by decide) (fun c_15 => ?_) (fun c_15 => ?_)
      · skip
        refine lv_iload_n hx hb dX6_commonDivisor_34 rfl (lv_at hl 2 rfl) ?_
        have hf : (f_X6_commonDivisor one other) = x7_2 := (ea7).symm.trans (if_pos c_15)
        rw [hf] at hret
        exact hret _ _ _ _ hP hS dX6_commonDivisor_35
      · skip
        refine lv_iload_n hx hb dX6_commonDivisor_18 rfl (lv_at hl 2 rfl) ?_
        refine lv_iload_n hx hb dX6_commonDivisor_19 rfl (lv_at hl 3 rfl) ?_
        refine lv_irem hx hb dX6_commonDivisor_20 (c_15) ?_
        refine lv_istore (lv' := [(5, .int (x7_2 - ((x7_2 / x7_3) * x7_3))), (0, .int one), (1, .int other), (2, .int x7_2), (3, .int x7_3), (4, .int (nI i))]) hx hb dX6_commonDivisor_21 hl (by decide) rfl (fun ls hl => ?_)
        refine lv_iload_n hx hb dX6_commonDivisor_23 rfl (lv_at hl 4 rfl) ?_
        refine lv_istore_n (lv' := [(2, .int x7_3), (5, .int (x7_2 - ((x7_2 / x7_3) * x7_3))), (0, .int one), (1, .int other), (3, .int x7_3), (4, .int (nI i))]) hx hb dX6_commonDivisor_24 rfl hl (by decide) rfl (fun ls hl => ?_)
        refine lv_iload hx hb dX6_commonDivisor_25 (lv_at hl 1 rfl) ?_
        refine lv_istore_n (lv' := [(3, .int (x7_2 - ((x7_2 / x7_3) * x7_3))), (2, .int x7_3), (5, .int (x7_2 - ((x7_2 / x7_3) * x7_3))), (0, .int one), (1, .int other), (4, .int (nI i))]) hx hb dX6_commonDivisor_27 rfl hl (by decide) rfl (fun ls hl => ?_)
        refine lv_iinc (v := (nI (i + 1))) (lv' := [(4, .int (nI (i + 1))), (3, .int (x7_2 - ((x7_2 / x7_3) * x7_3))), (2, .int x7_3), (5, .int (x7_2 - ((x7_2 / x7_3) * x7_3))), (0, .int one), (1, .int other)]) hx hb dX6_commonDivisor_28 hl (k := 5) rfl (nI_1 i) (by decide) rfl (fun ls hl => ?_)
        refine lv_goto (tgt := 7) hx hb dX6_commonDivisor_31 (by decide) ?_
        have hb7 : lo_X6_commonDivisor_7 (k7 + 1) i x7_2 x7_3 = lo_X6_commonDivisor_7 k7 (i + 1) x7_3 (x7_2 - ((x7_2 / x7_3) * x7_3)) := (if_neg c_15)
        exact ih7 (i + 1) x7_3 (x7_2 - ((x7_2 / x7_3) * x7_3)) (by omega) (hb7.symm.trans ea7) _ _ _ hP hD hS (lv_sub hl [4, 5, 2, 1, 0] rfl)
  exact lp7 64 0 one other (Nat.zero_add _) (Eq.symm (rfl : (f_X6_commonDivisor one other) = lo_X6_commonDivisor_7 64 0 one other)) _ _ _ hP hD hS (lv_sub hl [3, 4, 2, 1, 0] rfl)
