abbrev rm_X7_init : Room := { frames := 3, cells := 8, slots := 1318, locals := 64 }
set_option maxRecDepth 100000 in
set_option maxHeartbeats 4000000 in
theorem k_X7_init (l : Launch) (D : va_G) (cI cZ : ClassId) (adK adV : Nat → Nat) (h : Nat) : CN l D (kTy cI cZ) (kG adK adV) yX7_init (.code yX7_init cX7_init 1 none :: wsL_law) rm_X7_init [.ref h] [(h, .inr (7, [.null, .null, .null, .null, .int 0, .null, .int 0, .int 0, .null, .null, .null, .int 0, .int 0, .int 0, .int 0, .long 0]))] (fun u : {u : Nat → Nat // u 0 = h} => wM cI cZ u.1 (fun _ => 0) (upd (fun _ => 0) 0 2) (fun _ => 0) (fun _ => 0) 0 (fun _ => 0) 0 0 (fun _ => 0) (fun _ => 0) (fun _ => 0) 0 0 0 0 0) 8 1318 := by
  refine CN.of (cc := cX7_init) (maxL := 1) (by decide) rfl (Nat.le_of_ble_eq_true rfl) ?_
  intro p e s m args below meth c A Q ls hx hb hml hts0 hown hin hA hP hK hD hE hl hret
  have hts : ∀ w ∈ wsL_law, w.before args s = true := fun w h => hts0 w (List.mem_cons_of_mem _ h)
  clear hts0
  have hown : s.vm.findClass RX7 = some m.cls := hown
  have hl : lv_has ls 1 [(0, .ref h)] := hl
  have hS : va_S A s.heap s.heap [] := va_S.rf
  revert hP hS
  suffices hgo : ∀ (H : Heap) (locs : List Loc), va_P D vwCl [(h, .inr (7, [.null, .null, .null, .null, .int 0, .null, .int 0, .int 0, .null, .null, .null, .int 0, .int 0, .int 0, .int 0, .long 0]))] H → va_S A s.heap H locs → W p l e rm_X7_init s m args below meth c H locs 0 0 Q (F0 m 0 ls []) from fun a b => hgo _ _ a b
  intro H locs hP hS
  refine lv_aload_n hx hb dX7_init_0 rfl (lv_at hl 0 rfl) ?_
  refine W.objInit hx hb hown (kw hts kin_4 21 rfl) (kw hts kin_1 10 rfl) (kw hts kin_1 11 rfl) rfl (by rw [hml]; exact hl.1) rfl dX7_init_1 (Nat.le_of_ble_eq_true rfl) (Nat.le_of_ble_eq_true rfl) ?_
  refine W.eq (g2 := F0 m 4 ls []) rfl ?_
  refine lv_aload_n hx hb dX7_init_4 rfl (lv_at hl 0 rfl) ?_
  refine lv_sipush (v := 1020) hx hb dX7_init_5 (by decide) ?_
  refine va_newa (a0 := (1020, .inl fun _ => (0 : Int32))) hx hb (kw hts kin_3 6 rfl) (ty := .int) rfl hK hP hD hS hA (fun cA => rfl) (by decide) (by decide) (by decide) (Nat.le_of_ble_eq_true rfl) (Nat.le_of_ble_eq_true rfl) dX7_init_8 (fun q8 cA H hK2 hP hD hS => ?_)
  have ec : cI = cA := Option.some.inj ((hK2.2 0 _ rfl).2.symm.trans (hK2.2 2 _ rfl).2)
  subst ec
  clear hK2
  have hP : va_P D vwCl [(h, .inr (7, [.null, .null, .null, .null, .int 0, .null, .int 0, .int 0, .null, .null, .null, .int 0, .int 0, .int 0, .int 0, .long 0])), (q8, .inl (cI, 1020, .inl fun _ => 0))] H := hP
  have hD : va_D A [(h, .inr (7, [.null, .null, .null, .null, .int 0, .null, .int 0, .int 0, .null, .null, .null, .int 0, .int 0, .int 0, .int 0, .long 0])), (q8, .inl (cI, 1020, .inl fun _ => 0))] := hD
  refine W.widen (k := 1) (n := 1020) (by omega) (by omega) ?_
  refine va_putF (D := D) (ci := 7) (v := .ref q8) (ty := .array .int) (C := RX7) (T := TX7) (N := 16) hx hb hts inlX7 tyX7 tyX7_ok nmX7 hown hK hP hD hS 0 rfl rfl 0 (by decide) (kw hts kin_4 22 rfl) (fun _ h9 => h9) rfl hin rfl (by decide +kernel) rfl rfl (Nat.le_of_ble_eq_true rfl) dX7_init_10 (fun H locs hP hD hS => ?_)
  have hP : va_P D vwCl [(h, .inr (7, [.ref q8, .null, .null, .null, .int 0, .null, .int 0, .int 0, .null, .null, .null, .int 0, .int 0, .int 0, .int 0, .long 0])), (q8, .inl (cI, 1020, .inl fun _ => 0))] H := hP
  have hD : va_D A [(h, .inr (7, [.ref q8, .null, .null, .null, .int 0, .null, .int 0, .int 0, .null, .null, .null, .int 0, .int 0, .int 0, .int 0, .long 0])), (q8, .inl (cI, 1020, .inl fun _ => 0))] := hD
  refine lv_aload_n hx hb dX7_init_13 rfl (lv_at hl 0 rfl) ?_
  refine lv_bipush (v := 59) hx hb dX7_init_14 (by decide) ?_
  refine va_newa (a0 := (59, .inl fun _ => (0 : Int32))) hx hb (kw hts kin_3 6 rfl) (ty := .int) rfl hK hP hD hS hA (fun cA => rfl) (by decide) (by decide) (by decide) (Nat.le_of_ble_eq_true rfl) (Nat.le_of_ble_eq_true rfl) dX7_init_16 (fun q16 cA H hK2 hP hD hS => ?_)
  have ec : cI = cA := Option.some.inj ((hK2.2 0 _ rfl).2.symm.trans (hK2.2 2 _ rfl).2)
  subst ec
  clear hK2
  have hP : va_P D vwCl [(h, .inr (7, [.ref q8, .null, .null, .null, .int 0, .null, .int 0, .int 0, .null, .null, .null, .int 0, .int 0, .int 0, .int 0, .long 0])), (q8, .inl (cI, 1020, .inl fun _ => 0)), (q16, .inl (cI, 59, .inl fun _ => 0))] H := hP
  have hD : va_D A [(h, .inr (7, [.ref q8, .null, .null, .null, .int 0, .null, .int 0, .int 0, .null, .null, .null, .int 0, .int 0, .int 0, .int 0, .long 0])), (q8, .inl (cI, 1020, .inl fun _ => 0)), (q16, .inl (cI, 59, .inl fun _ => 0))] := hD
  refine W.widen (k := 2) (n := 1079) (by omega) (by omega) ?_
  refine va_putF (D := D) (ci := 7) (v := .ref q16) (ty := .array .int) (C := RX7) (T := TX7) (N := 16) hx hb hts inlX7 tyX7 tyX7_ok nmX7 hown hK hP hD hS 0 rfl rfl 1 (by decide) (kw hts kin_4 23 rfl) (fun _ h9 => h9) rfl hin rfl (by decide +kernel) rfl rfl (Nat.le_of_ble_eq_true rfl) dX7_init_18 (fun H locs hP hD hS => ?_)
  have hP : va_P D vwCl [(h, .inr (7, [.ref q8, .ref q16, .null, .null, .int 0, .null, .int 0, .int 0, .null, .null, .null, .int 0, .int 0, .int 0, .int 0, .long 0])), (q8, .inl (cI, 1020, .inl fun _ => 0)), (q16, .inl (cI, 59, .inl fun _ => 0))] H := hP
  have hD : va_D A [(h, .inr (7, [.ref q8, .ref q16, .null, .null, .int 0, .null, .int 0, .int 0, .null, .null, .null, .int 0, .int 0, .int 0, .int 0, .long 0])), (q8, .inl (cI, 1020, .inl fun _ => 0)), (q16, .inl (cI, 59, .inl fun _ => 0))] := hD
  refine lv_aload_n hx hb dX7_init_21 rfl (lv_at hl 0 rfl) ?_
  refine lv_bipush (v := 59) hx hb dX7_init_22 (by decide) ?_
  refine va_newa (a0 := (59, .inl fun _ => (0 : Int32))) hx hb (kw hts kin_3 6 rfl) (ty := .int) rfl hK hP hD hS hA (fun cA => rfl) (by decide) (by decide) (by decide) (Nat.le_of_ble_eq_true rfl) (Nat.le_of_ble_eq_true rfl) dX7_init_24 (fun q24 cA H hK2 hP hD hS => ?_)
  have ec : cI = cA := Option.some.inj ((hK2.2 0 _ rfl).2.symm.trans (hK2.2 2 _ rfl).2)
  subst ec
  clear hK2
  have hP : va_P D vwCl [(h, .inr (7, [.ref q8, .ref q16, .null, .null, .int 0, .null, .int 0, .int 0, .null, .null, .null, .int 0, .int 0, .int 0, .int 0, .long 0])), (q8, .inl (cI, 1020, .inl fun _ => 0)), (q16, .inl (cI, 59, .inl fun _ => 0)), (q24, .inl (cI, 59, .inl fun _ => 0))] H := hP
  have hD : va_D A [(h, .inr (7, [.ref q8, .ref q16, .null, .null, .int 0, .null, .int 0, .int 0, .null, .null, .null, .int 0, .int 0, .int 0, .int 0, .long 0])), (q8, .inl (cI, 1020, .inl fun _ => 0)), (q16, .inl (cI, 59, .inl fun _ => 0)), (q24, .inl (cI, 59, .inl fun _ => 0))] := hD
  refine W.widen (k := 3) (n := 1138) (by omega) (by omega) ?_
  refine va_putF (D := D) (ci := 7) (v := .ref q24) (ty := .array .int) (C := RX7) (T := TX7) (N := 16) hx hb hts inlX7 tyX7 tyX7_ok nmX7 hown hK hP hD hS 0 rfl rfl 2 (by decide) (kw hts kin_5 0 rfl) (fun _ h9 => h9) rfl hin rfl (by decide +kernel) rfl rfl (Nat.le_of_ble_eq_true rfl) dX7_init_26 (fun H locs hP hD hS => ?_)
  have hP : va_P D vwCl [(h, .inr (7, [.ref q8, .ref q16, .ref q24, .null, .int 0, .null, .int 0, .int 0, .null, .null, .null, .int 0, .int 0, .int 0, .int 0, .long 0])), (q8, .inl (cI, 1020, .inl fun _ => 0)), (q16, .inl (cI, 59, .inl fun _ => 0)), (q24, .inl (cI, 59, .inl fun _ => 0))] H := hP
  have hD : va_D A [(h, .inr (7, [.ref q8, .ref q16, .ref q24, .null, .int 0, .null, .int 0, .int 0, .null, .null, .null, .int 0, .int 0, .int 0, .int 0, .long 0])), (q8, .inl (cI, 1020, .inl fun _ => 0)), (q16, .inl (cI, 59, .inl fun _ => 0)), (q24, .inl (cI, 59, .inl fun _ => 0))] := hD
  refine lv_aload_n hx hb dX7_init_29 rfl (lv_at hl 0 rfl) ?_
  refine lv_iconst (v := 2) hx hb dX7_init_30 (by decide) ?_
  refine va_newa (a0 := (2, .inl fun _ => (0 : Int32))) hx hb (kw hts kin_5 1 rfl) (ty := .boolean) rfl hK hP hD hS hA (fun cA => rfl) (by decide) (by decide) (by decide) (Nat.le_of_ble_eq_true rfl) (Nat.le_of_ble_eq_true rfl) dX7_init_31 (fun q31 cA H hK2 hP hD hS => ?_)
  have ec : cZ = cA := Option.some.inj ((hK2.2 1 _ rfl).2.symm.trans (hK2.2 2 _ rfl).2)
  subst ec
  clear hK2
  have hP : va_P D vwCl [(h, .inr (7, [.ref q8, .ref q16, .ref q24, .null, .int 0, .null, .int 0, .int 0, .null, .null, .null, .int 0, .int 0, .int 0, .int 0, .long 0])), (q8, .inl (cI, 1020, .inl fun _ => 0)), (q16, .inl (cI, 59, .inl fun _ => 0)), (q24, .inl (cI, 59, .inl fun _ => 0)), (q31, .inl (cZ, 2, .inl fun _ => 0))] H := hP
  have hD : va_D A [(h, .inr (7, [.ref q8, .ref q16, .ref q24, .null, .int 0, .null, .int 0, .int 0, .null, .null, .null, .int 0, .int 0, .int 0, .int 0, .long 0])), (q8, .inl (cI, 1020, .inl fun _ => 0)), (q16, .inl (cI, 59, .inl fun _ => 0)), (q24, .inl (cI, 59, .inl fun _ => 0)), (q31, .inl (cZ, 2, .inl fun _ => 0))] := hD
  refine W.widen (k := 4) (n := 1140) (by omega) (by omega) ?_
  refine va_putF (D := D) (ci := 7) (v := .ref q31) (ty := .array .boolean) (C := RX7) (T := TX7) (N := 16) hx hb hts inlX7 tyX7 tyX7_ok nmX7 hown hK hP hD hS 0 rfl rfl 3 (by decide) (kw hts kin_5 2 rfl) (fun _ h9 => h9) rfl hin rfl (by decide +kernel) rfl rfl (Nat.le_of_ble_eq_true rfl) dX7_init_33 (fun H locs hP hD hS => ?_)
  have hP : va_P D vwCl [(h, .inr (7, [.ref q8, .ref q16, .ref q24, .ref q31, .int 0, .null, .int 0, .int 0, .null, .null, .null, .int 0, .int 0, .int 0, .int 0, .long 0])), (q8, .inl (cI, 1020, .inl fun _ => 0)), (q16, .inl (cI, 59, .inl fun _ => 0)), (q24, .inl (cI, 59, .inl fun _ => 0)), (q31, .inl (cZ, 2, .inl fun _ => 0))] H := hP
  have hD : va_D A [(h, .inr (7, [.ref q8, .ref q16, .ref q24, .ref q31, .int 0, .null, .int 0, .int 0, .null, .null, .null, .int 0, .int 0, .int 0, .int 0, .long 0])), (q8, .inl (cI, 1020, .inl fun _ => 0)), (q16, .inl (cI, 59, .inl fun _ => 0)), (q24, .inl (cI, 59, .inl fun _ => 0)), (q31, .inl (cZ, 2, .inl fun _ => 0))] := hD
  refine lv_aload_n hx hb dX7_init_36 rfl (lv_at hl 0 rfl) ?_
  refine lv_sipush (v := 160) hx hb dX7_init_37 (by decide) ?_
  refine va_newa (a0 := (160, .inl fun _ => (0 : Int32))) hx hb (kw hts kin_3 6 rfl) (ty := .int) rfl hK hP hD hS hA (fun cA => rfl) (by decide) (by decide) (by decide) (Nat.le_of_ble_eq_true rfl) (Nat.le_of_ble_eq_true rfl) dX7_init_40 (fun q40 cA H hK2 hP hD hS => ?_)
  have ec : cI = cA := Option.some.inj ((hK2.2 0 _ rfl).2.symm.trans (hK2.2 2 _ rfl).2)
  subst ec
  clear hK2
  have hP : va_P D vwCl [(h, .inr (7, [.ref q8, .ref q16, .ref q24, .ref q31, .int 0, .null, .int 0, .int 0, .null, .null, .null, .int 0, .int 0, .int 0, .int 0, .long 0])), (q8, .inl (cI, 1020, .inl fun _ => 0)), (q16, .inl (cI, 59, .inl fun _ => 0)), (q24, .inl (cI, 59, .inl fun _ => 0)), (q31, .inl (cZ, 2, .inl fun _ => 0)), (q40, .inl (cI, 160, .inl fun _ => 0))] H := hP
  have hD : va_D A [(h, .inr (7, [.ref q8, .ref q16, .ref q24, .ref q31, .int 0, .null, .int 0, .int 0, .null, .null, .null, .int 0, .int 0, .int 0, .int 0, .long 0])), (q8, .inl (cI, 1020, .inl fun _ => 0)), (q16, .inl (cI, 59, .inl fun _ => 0)), (q24, .inl (cI, 59, .inl fun _ => 0)), (q31, .inl (cZ, 2, .inl fun _ => 0)), (q40, .inl (cI, 160, .inl fun _ => 0))] := hD
  refine W.widen (k := 5) (n := 1300) (by omega) (by omega) ?_
  refine va_putF (D := D) (ci := 7) (v := .ref q40) (ty := .array .int) (C := RX7) (T := TX7) (N := 16) hx hb hts inlX7 tyX7 tyX7_ok nmX7 hown hK hP hD hS 0 rfl rfl 5 (by decide) (kw hts kin_5 3 rfl) (fun _ h9 => h9) rfl hin rfl (by decide +kernel) rfl rfl (Nat.le_of_ble_eq_true rfl) dX7_init_42 (fun H locs hP hD hS => ?_)
  have hP : va_P D vwCl [(h, .inr (7, [.ref q8, .ref q16, .ref q24, .ref q31, .int 0, .ref q40, .int 0, .int 0, .null, .null, .null, .int 0, .int 0, .int 0, .int 0, .long 0])), (q8, .inl (cI, 1020, .inl fun _ => 0)), (q16, .inl (cI, 59, .inl fun _ => 0)), (q24, .inl (cI, 59, .inl fun _ => 0)), (q31, .inl (cZ, 2, .inl fun _ => 0)), (q40, .inl (cI, 160, .inl fun _ => 0))] H := hP
  have hD : va_D A [(h, .inr (7, [.ref q8, .ref q16, .ref q24, .ref q31, .int 0, .ref q40, .int 0, .int 0, .null, .null, .null, .int 0, .int 0, .int 0, .int 0, .long 0])), (q8, .inl (cI, 1020, .inl fun _ => 0)), (q16, .inl (cI, 59, .inl fun _ => 0)), (q24, .inl (cI, 59, .inl fun _ => 0)), (q31, .inl (cZ, 2, .inl fun _ => 0)), (q40, .inl (cI, 160, .inl fun _ => 0))] := hD
  refine lv_aload_n hx hb dX7_init_45 rfl (lv_at hl 0 rfl) ?_
  refine lv_bipush (v := 6) hx hb dX7_init_46 (by decide) ?_
  refine va_newa (a0 := (6, .inl fun _ => (0 : Int32))) hx hb (kw hts kin_3 6 rfl) (ty := .int) rfl hK hP hD hS hA (fun cA => rfl) (by decide) (by decide) (by decide) (Nat.le_of_ble_eq_true rfl) (Nat.le_of_ble_eq_true rfl) dX7_init_48 (fun q48 cA H hK2 hP hD hS => ?_)
  have ec : cI = cA := Option.some.inj ((hK2.2 0 _ rfl).2.symm.trans (hK2.2 2 _ rfl).2)
  subst ec
  clear hK2
  have hP : va_P D vwCl [(h, .inr (7, [.ref q8, .ref q16, .ref q24, .ref q31, .int 0, .ref q40, .int 0, .int 0, .null, .null, .null, .int 0, .int 0, .int 0, .int 0, .long 0])), (q8, .inl (cI, 1020, .inl fun _ => 0)), (q16, .inl (cI, 59, .inl fun _ => 0)), (q24, .inl (cI, 59, .inl fun _ => 0)), (q31, .inl (cZ, 2, .inl fun _ => 0)), (q40, .inl (cI, 160, .inl fun _ => 0)), (q48, .inl (cI, 6, .inl fun _ => 0))] H := hP
  have hD : va_D A [(h, .inr (7, [.ref q8, .ref q16, .ref q24, .ref q31, .int 0, .ref q40, .int 0, .int 0, .null, .null, .null, .int 0, .int 0, .int 0, .int 0, .long 0])), (q8, .inl (cI, 1020, .inl fun _ => 0)), (q16, .inl (cI, 59, .inl fun _ => 0)), (q24, .inl (cI, 59, .inl fun _ => 0)), (q31, .inl (cZ, 2, .inl fun _ => 0)), (q40, .inl (cI, 160, .inl fun _ => 0)), (q48, .inl (cI, 6, .inl fun _ => 0))] := hD
  refine W.widen (k := 6) (n := 1306) (by omega) (by omega) ?_
  refine va_putF (D := D) (ci := 7) (v := .ref q48) (ty := .array .int) (C := RX7) (T := TX7) (N := 16) hx hb hts inlX7 tyX7 tyX7_ok nmX7 hown hK hP hD hS 0 rfl rfl 8 (by decide) (kw hts kin_5 4 rfl) (fun _ h9 => h9) rfl hin rfl (by decide +kernel) rfl rfl (Nat.le_of_ble_eq_true rfl) dX7_init_50 (fun H locs hP hD hS => ?_)
  have hP : va_P D vwCl [(h, .inr (7, [.ref q8, .ref q16, .ref q24, .ref q31, .int 0, .ref q40, .int 0, .int 0, .ref q48, .null, .null, .int 0, .int 0, .int 0, .int 0, .long 0])), (q8, .inl (cI, 1020, .inl fun _ => 0)), (q16, .inl (cI, 59, .inl fun _ => 0)), (q24, .inl (cI, 59, .inl fun _ => 0)), (q31, .inl (cZ, 2, .inl fun _ => 0)), (q40, .inl (cI, 160, .inl fun _ => 0)), (q48, .inl (cI, 6, .inl fun _ => 0))] H := hP
  have hD : va_D A [(h, .inr (7, [.ref q8, .ref q16, .ref q24, .ref q31, .int 0, .ref q40, .int 0, .int 0, .ref q48, .null, .null, .int 0, .int 0, .int 0, .int 0, .long 0])), (q8, .inl (cI, 1020, .inl fun _ => 0)), (q16, .inl (cI, 59, .inl fun _ => 0)), (q24, .inl (cI, 59, .inl fun _ => 0)), (q31, .inl (cZ, 2, .inl fun _ => 0)), (q40, .inl (cI, 160, .inl fun _ => 0)), (q48, .inl (cI, 6, .inl fun _ => 0))] := hD
  refine lv_aload_n hx hb dX7_init_53 rfl (lv_at hl 0 rfl) ?_
  refine lv_bipush (v := 6) hx hb dX7_init_54 (by decide) ?_
  refine va_newa (a0 := (6, .inl fun _ => (0 : Int32))) hx hb (kw hts kin_3 6 rfl) (ty := .int) rfl hK hP hD hS hA (fun cA => rfl) (by decide) (by decide) (by decide) (Nat.le_of_ble_eq_true rfl) (Nat.le_of_ble_eq_true rfl) dX7_init_56 (fun q56 cA H hK2 hP hD hS => ?_)
  have ec : cI = cA := Option.some.inj ((hK2.2 0 _ rfl).2.symm.trans (hK2.2 2 _ rfl).2)
  subst ec
  clear hK2
  have hP : va_P D vwCl [(h, .inr (7, [.ref q8, .ref q16, .ref q24, .ref q31, .int 0, .ref q40, .int 0, .int 0, .ref q48, .null, .null, .int 0, .int 0, .int 0, .int 0, .long 0])), (q8, .inl (cI, 1020, .inl fun _ => 0)), (q16, .inl (cI, 59, .inl fun _ => 0)), (q24, .inl (cI, 59, .inl fun _ => 0)), (q31, .inl (cZ, 2, .inl fun _ => 0)), (q40, .inl (cI, 160, .inl fun _ => 0)), (q48, .inl (cI, 6, .inl fun _ => 0)), (q56, .inl (cI, 6, .inl fun _ => 0))] H := hP
  have hD : va_D A [(h, .inr (7, [.ref q8, .ref q16, .ref q24, .ref q31, .int 0, .ref q40, .int 0, .int 0, .ref q48, .null, .null, .int 0, .int 0, .int 0, .int 0, .long 0])), (q8, .inl (cI, 1020, .inl fun _ => 0)), (q16, .inl (cI, 59, .inl fun _ => 0)), (q24, .inl (cI, 59, .inl fun _ => 0)), (q31, .inl (cZ, 2, .inl fun _ => 0)), (q40, .inl (cI, 160, .inl fun _ => 0)), (q48, .inl (cI, 6, .inl fun _ => 0)), (q56, .inl (cI, 6, .inl fun _ => 0))] := hD
  refine W.widen (k := 7) (n := 1312) (by omega) (by omega) ?_
  refine va_putF (D := D) (ci := 7) (v := .ref q56) (ty := .array .int) (C := RX7) (T := TX7) (N := 16) hx hb hts inlX7 tyX7 tyX7_ok nmX7 hown hK hP hD hS 0 rfl rfl 9 (by decide) (kw hts kin_5 5 rfl) (fun _ h9 => h9) rfl hin rfl (by decide +kernel) rfl rfl (Nat.le_of_ble_eq_true rfl) dX7_init_58 (fun H locs hP hD hS => ?_)
  have hP : va_P D vwCl [(h, .inr (7, [.ref q8, .ref q16, .ref q24, .ref q31, .int 0, .ref q40, .int 0, .int 0, .ref q48, .ref q56, .null, .int 0, .int 0, .int 0, .int 0, .long 0])), (q8, .inl (cI, 1020, .inl fun _ => 0)), (q16, .inl (cI, 59, .inl fun _ => 0)), (q24, .inl (cI, 59, .inl fun _ => 0)), (q31, .inl (cZ, 2, .inl fun _ => 0)), (q40, .inl (cI, 160, .inl fun _ => 0)), (q48, .inl (cI, 6, .inl fun _ => 0)), (q56, .inl (cI, 6, .inl fun _ => 0))] H := hP
  have hD : va_D A [(h, .inr (7, [.ref q8, .ref q16, .ref q24, .ref q31, .int 0, .ref q40, .int 0, .int 0, .ref q48, .ref q56, .null, .int 0, .int 0, .int 0, .int 0, .long 0])), (q8, .inl (cI, 1020, .inl fun _ => 0)), (q16, .inl (cI, 59, .inl fun _ => 0)), (q24, .inl (cI, 59, .inl fun _ => 0)), (q31, .inl (cZ, 2, .inl fun _ => 0)), (q40, .inl (cI, 160, .inl fun _ => 0)), (q48, .inl (cI, 6, .inl fun _ => 0)), (q56, .inl (cI, 6, .inl fun _ => 0))] := hD
  refine lv_aload_n hx hb dX7_init_61 rfl (lv_at hl 0 rfl) ?_
  refine lv_bipush (v := 6) hx hb dX7_init_62 (by decide) ?_
  refine va_newa (a0 := (6, .inl fun _ => (0 : Int32))) hx hb (kw hts kin_3 6 rfl) (ty := .int) rfl hK hP hD hS hA (fun cA => rfl) (by decide) (by decide) (by decide) (Nat.le_of_ble_eq_true rfl) (Nat.le_of_ble_eq_true rfl) dX7_init_64 (fun q64 cA H hK2 hP hD hS => ?_)
  have ec : cI = cA := Option.some.inj ((hK2.2 0 _ rfl).2.symm.trans (hK2.2 2 _ rfl).2)
  subst ec
  clear hK2
  have hP : va_P D vwCl [(h, .inr (7, [.ref q8, .ref q16, .ref q24, .ref q31, .int 0, .ref q40, .int 0, .int 0, .ref q48, .ref q56, .null, .int 0, .int 0, .int 0, .int 0, .long 0])), (q8, .inl (cI, 1020, .inl fun _ => 0)), (q16, .inl (cI, 59, .inl fun _ => 0)), (q24, .inl (cI, 59, .inl fun _ => 0)), (q31, .inl (cZ, 2, .inl fun _ => 0)), (q40, .inl (cI, 160, .inl fun _ => 0)), (q48, .inl (cI, 6, .inl fun _ => 0)), (q56, .inl (cI, 6, .inl fun _ => 0)), (q64, .inl (cI, 6, .inl fun _ => 0))] H := hP
  have hD : va_D A [(h, .inr (7, [.ref q8, .ref q16, .ref q24, .ref q31, .int 0, .ref q40, .int 0, .int 0, .ref q48, .ref q56, .null, .int 0, .int 0, .int 0, .int 0, .long 0])), (q8, .inl (cI, 1020, .inl fun _ => 0)), (q16, .inl (cI, 59, .inl fun _ => 0)), (q24, .inl (cI, 59, .inl fun _ => 0)), (q31, .inl (cZ, 2, .inl fun _ => 0)), (q40, .inl (cI, 160, .inl fun _ => 0)), (q48, .inl (cI, 6, .inl fun _ => 0)), (q56, .inl (cI, 6, .inl fun _ => 0)), (q64, .inl (cI, 6, .inl fun _ => 0))] := hD
  refine W.widen (k := 8) (n := 1318) (by omega) (by omega) ?_
  refine va_putF (D := D) (ci := 7) (v := .ref q64) (ty := .array .int) (C := RX7) (T := TX7) (N := 16) hx hb hts inlX7 tyX7 tyX7_ok nmX7 hown hK hP hD hS 0 rfl rfl 10 (by decide) (kw hts kin_5 6 rfl) (fun _ h9 => h9) rfl hin rfl (by decide +kernel) rfl rfl (Nat.le_of_ble_eq_true rfl) dX7_init_66 (fun H locs hP hD hS => ?_)
  have hP : va_P D vwCl [(h, .inr (7, [.ref q8, .ref q16, .ref q24, .ref q31, .int 0, .ref q40, .int 0, .int 0, .ref q48, .ref q56, .ref q64, .int 0, .int 0, .int 0, .int 0, .long 0])), (q8, .inl (cI, 1020, .inl fun _ => 0)), (q16, .inl (cI, 59, .inl fun _ => 0)), (q24, .inl (cI, 59, .inl fun _ => 0)), (q31, .inl (cZ, 2, .inl fun _ => 0)), (q40, .inl (cI, 160, .inl fun _ => 0)), (q48, .inl (cI, 6, .inl fun _ => 0)), (q56, .inl (cI, 6, .inl fun _ => 0)), (q64, .inl (cI, 6, .inl fun _ => 0))] H := hP
  have hD : va_D A [(h, .inr (7, [.ref q8, .ref q16, .ref q24, .ref q31, .int 0, .ref q40, .int 0, .int 0, .ref q48, .ref q56, .ref q64, .int 0, .int 0, .int 0, .int 0, .long 0])), (q8, .inl (cI, 1020, .inl fun _ => 0)), (q16, .inl (cI, 59, .inl fun _ => 0)), (q24, .inl (cI, 59, .inl fun _ => 0)), (q31, .inl (cZ, 2, .inl fun _ => 0)), (q40, .inl (cI, 160, .inl fun _ => 0)), (q48, .inl (cI, 6, .inl fun _ => 0)), (q56, .inl (cI, 6, .inl fun _ => 0)), (q64, .inl (cI, 6, .inl fun _ => 0))] := hD
  refine lv_aload_n hx hb dX7_init_69 rfl (lv_at hl 0 rfl) ?_
  refine va_get (D := D) (ci := 7) (v := .ref q16) (C := RX7) (T := TX7) (N := 16) hx hb hts inlX7 hown hK hP 0 rfl rfl 1 (by decide) (kw hts kin_4 23 rfl) (fun _ h9 => h9) rfl dX7_init_70 ?_
  refine lv_iconst (v := 0) hx hb dX7_init_73 (by decide) ?_
  refine lv_iconst (v := 2) hx hb dX7_init_74 (by decide) ?_
  refine va_iast (cA := cI) (n := 59) (f := fun _ => 0) hx hb hK hP hD hS 2 0 rfl rfl ((kb.lit 0).in (by decide) (by decide)) dX7_init_75 (fun H locs hP hD hS => ?_)
  have hP : va_P D vwCl [(h, .inr (7, [.ref q8, .ref q16, .ref q24, .ref q31, .int 0, .ref q40, .int 0, .int 0, .ref q48, .ref q56, .ref q64, .int 0, .int 0, .int 0, .int 0, .long 0])), (q8, .inl (cI, 1020, .inl fun _ => 0)), (q16, .inl (cI, 59, .inl (upd (fun _ => 0) 0 2))), (q24, .inl (cI, 59, .inl fun _ => 0)), (q31, .inl (cZ, 2, .inl fun _ => 0)), (q40, .inl (cI, 160, .inl fun _ => 0)), (q48, .inl (cI, 6, .inl fun _ => 0)), (q56, .inl (cI, 6, .inl fun _ => 0)), (q64, .inl (cI, 6, .inl fun _ => 0))] H := hP
  have hD : va_D A [(h, .inr (7, [.ref q8, .ref q16, .ref q24, .ref q31, .int 0, .ref q40, .int 0, .int 0, .ref q48, .ref q56, .ref q64, .int 0, .int 0, .int 0, .int 0, .long 0])), (q8, .inl (cI, 1020, .inl fun _ => 0)), (q16, .inl (cI, 59, .inl (upd (fun _ => 0) 0 2))), (q24, .inl (cI, 59, .inl fun _ => 0)), (q31, .inl (cZ, 2, .inl fun _ => 0)), (q40, .inl (cI, 160, .inl fun _ => 0)), (q48, .inl (cI, 6, .inl fun _ => 0)), (q56, .inl (cI, 6, .inl fun _ => 0)), (q64, .inl (cI, 6, .inl fun _ => 0))] := hD
  exact hret ⟨fun i => [h, q8, q16, q24, q31, q40, q48, q56, q64].getD i 0, rfl⟩ H _ ls 76 hP hD hS dX7_init_76
