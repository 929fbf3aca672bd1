def f_X7_isPerson (told : Nat → Int32) (x : Int32) : Int32 := (f_X7_in x.toInt64 0 (((told 1) - 1).toInt64))
abbrev rm_X7_isPerson : Room := { frames := 1, cells := 0, slots := 0, locals := 25 }
theorem b01_X7_isPerson (told : Nat → Int32) (x : Int32) : (f_X7_isPerson told x) = 0 ∨ (f_X7_isPerson told x) = 1 := b01_X7_in _ _ _
set_option maxRecDepth 100000 in
set_option maxHeartbeats 4000000 in
theorem k_X7_isPerson (l : Launch) (D : va_G) (cI cZ : ClassId) (u : Nat → Nat) (w : Nat → Int32) (told : Nat → Int32) (read : Nat → Int32) (isK : Nat → Int32) (undoes : Int32) (text : Nat → Int32) (texted : Int32) (seen : Int32) (seS : Nat → Int32) (seB : Nat → Int32) (seP : Nat → Int32) (at_ : Int32) (start : Int32) (clauses : Int32) (number : Int32) (word : Int64) (x : Int32) : CI l D (kTy cI cZ) kT yX7_isPerson (.code yX7_isPerson cX7_isPerson 2 (some .boolean) :: wsL_law) rm_X7_isPerson [.ref (u 0), .int x] (wM cI cZ u w told read isK undoes text texted seen seS seB seP at_ start clauses number word) (wM cI cZ u w told read isK undoes text texted seen seS seB seP at_ start clauses number word) (f_X7_isPerson told x) := by
  refine CI.of (cc := cX7_isPerson) (maxL := 2) (ty := .boolean) (by decide) rfl (Nat.le_of_ble_eq_true rfl) (knb (b01_X7_isPerson told x)) ?_
  intro p e s m args below meth c A Q ls hx hb hml hts0 hown hA hP hK hD hE hl hret
  have hts : ∀ w ∈ wsL_law, w.before args s = true := fun w h => hts0 w (List.mem_cons_of_mem _ h)
  clear hts0
  have hown : s.vm.findClass RX7 = some m.cls := hown
  have hl : lv_has ls 2 [(0, .ref (u 0)), (1, .int x)] := hl
  have hS : va_S A s.heap s.heap [] := va_S.rf
  revert hP hS
  suffices hgo : ∀ (H : Heap) (locs : List Loc), va_P D vwCl (wM cI cZ u w told read isK undoes text texted seen seS seB seP at_ start clauses number word) H → va_S A s.heap H locs → W p l e rm_X7_isPerson s m args below meth c H locs 0 0 Q (F0 m 0 ls []) from fun a b => hgo _ _ a b
  intro H locs hP hS
  refine lv_iload_n hx hb dX7_isPerson_0 rfl (lv_at hl 1 rfl) ?_
  refine lv_i2l (v := x.toInt64) hx hb dX7_isPerson_1 rfl ?_
  refine lv_lconst (v := 0) hx hb dX7_isPerson_2 (by decide) ?_
  refine lv_aload_n hx hb dX7_isPerson_3 rfl (lv_at hl 0 rfl) ?_
  refine va_get (D := D) (ci := 7) (v := .ref (u 2)) (C := RX7) (T := TX7) (N := 16) hx hb hts inlX7 hown hK hP 0 rfl rfl 1 (by decide) (kw hts kin_4 23 rfl) (fun _ h9 => h9) rfl dX7_isPerson_4 ?_
  refine lv_iconst (v := 1) hx hb dX7_isPerson_7 (by decide) ?_
  refine va_iald (cA := cI) (n := 59) (f := told) hx hb hK hP 2 0 rfl rfl ((kb.lit 1).in (by decide) (by decide)) dX7_isPerson_8 ?_
  show W p l e rm_X7_isPerson s m args below meth c H locs 0 0 Q (F0 m 9 ls [.int (told 1), .long 0, .long x.toInt64])
  refine lv_iconst (v := 1) hx hb dX7_isPerson_9 (by decide) ?_
  refine lv_isub hx hb dX7_isPerson_10 ?_
  refine lv_i2l (v := ((told 1) - 1).toInt64) hx hb dX7_isPerson_11 rfl ?_
  refine ksi (As := [.long x.toInt64, .long 0, .long (((told 1) - 1).toInt64)]) (rest := []) ⟨hx, hb, hml, hown, hts⟩ hP hK hD hS hA hE (k_X7_in l D cI cZ  x.toInt64 0 (((told 1) - 1).toInt64)) (kcs hts kM_X7_in (kin_6 _ (List.mem_of_getElem? (i := 6) rfl)) ⟨rfl, rfl⟩ ⟨Nat.le_of_ble_eq_true rfl, Nat.le_of_ble_eq_true rfl⟩) kBl_T kOk_T rfl hl.1 rfl (Nat.le_of_ble_eq_true rfl) dX7_isPerson_12 (fun H locs hP hD hS => ?_)
  have hf : (f_X7_isPerson told x) = (f_X7_in x.toInt64 0 (((told 1) - 1).toInt64)) := rfl
  rw [hf] at hret
  exact hret _ _ _ _ hP hS dX7_isPerson_15
