def f_X7_isStrip (strip : Int32) : Int32 := (f_X7_in strip.toInt64 0 5)
abbrev rm_X7_isStrip : Room := { frames := 1, cells := 0, slots := 0, locals := 25 }
theorem b01_X7_isStrip (strip : Int32) : (f_X7_isStrip strip) = 0 ∨ (f_X7_isStrip strip) = 1 := b01_X7_in _ _ _
set_option maxRecDepth 100000 in
set_option maxHeartbeats 4000000 in
theorem k_X7_isStrip (l : Launch) (D : va_G) (cI cZ : ClassId) (strip : Int32) : CI l D (kTy cI cZ) kT yX7_isStrip (.code yX7_isStrip cX7_isStrip 1 (some .boolean) :: wsL_law) rm_X7_isStrip [.int strip] [] [] (f_X7_isStrip strip) := by
  refine CI.of (cc := cX7_isStrip) (maxL := 1) (ty := .boolean) (by decide) rfl (Nat.le_of_ble_eq_true rfl) (knb (b01_X7_isStrip strip)) ?_
  intro p e s m args below meth c A Q ls hx hb hml hts0 hown hA hP hK hD hE hl hret
  have hts : ∀ w ∈ wsL_law, w.before args s = true := fun w h => hts0 w (List.mem_cons_of_mem _ h)
  clear hts0
  have hown : s.vm.findClass RX7 = some m.cls := hown
  have hl : lv_has ls 1 [(0, .int strip)] := hl
  have hS : va_S A s.heap s.heap [] := va_S.rf
  revert hP hS
  suffices hgo : ∀ (H : Heap) (locs : List Loc), va_P D vwCl [] H → va_S A s.heap H locs → W p l e rm_X7_isStrip s m args below meth c H locs 0 0 Q (F0 m 0 ls []) from fun a b => hgo _ _ a b
  intro H locs hP hS
  refine lv_iload_n hx hb dX7_isStrip_0 rfl (lv_at hl 0 rfl) ?_
  refine lv_i2l (v := strip.toInt64) hx hb dX7_isStrip_1 rfl ?_
  refine lv_lconst (v := 0) hx hb dX7_isStrip_2 (by decide) ?_
  refine lv_ldc2 (v := 5) hx hb hown (kw hts kin_19 9 rfl) dX7_isStrip_3 ?_
  refine ksi (As := [.long strip.toInt64, .long 0, .long 5]) (rest := []) ⟨hx, hb, hml, hown, hts⟩ hP hK hD hS hA hE (k_X7_in l D cI cZ  strip.toInt64 0 5) (kcs hts kM_X7_in (kin_6 _ (List.mem_of_getElem? (i := 6) rfl)) ⟨rfl, rfl⟩ ⟨Nat.le_of_ble_eq_true rfl, Nat.le_of_ble_eq_true rfl⟩) kBl_T kOk_T rfl hl.1 rfl (Nat.le_of_ble_eq_true rfl) dX7_isStrip_6 (fun H locs hP hD hS => ?_)
  have hf : (f_X7_isStrip strip) = (f_X7_in strip.toInt64 0 5) := rfl
  rw [hf] at hret
  exact hret _ _ _ _ hP hS dX7_isStrip_9
