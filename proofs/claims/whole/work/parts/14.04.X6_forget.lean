def f_X6_forget (sn : Int32) : Int32 × Int32 := (sn, f_X3_clear)
abbrev rm_X6_forget : Room := { frames := 1, cells := 0, slots := 0, locals := 20 }
set_option maxRecDepth 100000 in
set_option maxHeartbeats 4000000 in
theorem k_X6_forget (l : Launch) (D : va_G) (cI cZ : ClassId) (adK adV : Nat → Nat) (q : Nat → Nat) (lat : Int32) (und : Int32) (kpl : Int32) (len : Int32) (ncl : Int32) (spe : Int32) (sru : Int32) (sbe : Int32) (sen : Int32) (lets : Nat → Int32) (wrds : Nat → Int32) (nums : Nat → Int32) (tb : Int32) (tp : Int32) (tr : Int32) (knd : Nat → Int32) (sec : Nat → Int32) (brd : Nat → Int32) (rms : Nat → Int32) (std : Nat → Int32) (sn : Int32) (ss : Nat → Int32) (sb : Nat → Int32) (sp : Nat → Int32) (past : Nat → Int32) (kept : Nat → Int32) : CI l D (kTy cI cZ) (kG adK adV) yX6_forget (.code yX6_forget cX6_forget 2 (some .int) :: wsL_law) rm_X6_forget [.ref (q 0)] (wC cI q lat und kpl len ncl spe sru sbe sen lets wrds nums tb tp tr knd sec brd rms std sn ss sb sp past kept) (wC cI q lat und kpl len ncl spe sru sbe sen lets wrds nums tb tp tr knd sec brd rms std ((f_X6_forget sn).2) ss sb sp past kept) ((f_X6_forget sn).1) := by
  refine CI.of (cc := cX6_forget) (maxL := 2) (ty := .int) (by decide) rfl (Nat.le_of_ble_eq_true rfl) rfl ?_
  intro p e s m args below meth c A Q ls hx hb hml hts0 hown hA hP hK hD hE hl hret
  have hts : ∀ w ∈ wsL_law, w.before args s = true := fun w h => hts0 w (List.mem_cons_of_mem _ h)
  clear hts0
  have hown : s.vm.findClass RX6 = some m.cls := hown
  have hl : lv_has ls 2 [(0, .ref (q 0))] := hl
  have hS : va_S A s.heap s.heap [] := va_S.rf
  revert hP hS
  suffices hgo : ∀ (H : Heap) (locs : List Loc), va_P D vwCl (wC cI q lat und kpl len ncl spe sru sbe sen lets wrds nums tb tp tr knd sec brd rms std sn ss sb sp past kept) H → va_S A s.heap H locs → W p l e rm_X6_forget s m args below meth c H locs 0 0 Q (F0 m 0 ls []) from fun a b => hgo _ _ a b
  intro H locs hP hS
  refine lv_aload_n hx hb dX6_forget_0 rfl (lv_at hl 0 rfl) ?_
  refine va_get (D := D) (ci := 6) (v := .ref (q 20)) (C := RX6) (T := TX6) (N := 9) hx hb hts inlX6 hown hK hP 0 rfl rfl 3 (by decide) (kw hts kin_2 3 rfl) (fun _ h9 => h9) rfl dX6_forget_1 ?_
  refine va_get (D := D) (ci := 3) (v := .int sn) (C := RX3) (T := TX3) (N := 4) hx hb hts inlX3 hown hK hP 20 rfl rfl 0 (by decide) (kw hts kin_31 9 rfl) (fun _ h9 => h9) rfl dX6_forget_4 ?_
  refine lv_istore_n (lv' := [(1, .int sn), (0, .ref (q 0))]) hx hb dX6_forget_7 rfl hl (by decide) rfl (fun ls hl => ?_)
  refine lv_aload_n hx hb dX6_forget_8 rfl (lv_at hl 1 rfl) ?_
  refine va_get (D := D) (ci := 6) (v := .ref (q 20)) (C := RX6) (T := TX6) (N := 9) hx hb hts inlX6 hown hK hP 0 rfl rfl 3 (by decide) (kw hts kin_2 3 rfl) (fun _ h9 => h9) rfl dX6_forget_9 ?_
  refine kvv (As := []) (rest := []) (q0 := 0) (ci := 3) ⟨hx, hb, hml, hown, hts⟩ hP hK hD hS hA hE (k_X3_clear l D cI cZ adK adV q sn ss sb sp) (kcv hts kM_X3_clear (kin_16 _ (List.mem_of_getElem? (i := 10) rfl)) ⟨rfl, rfl⟩ ⟨Nat.le_of_ble_eq_true rfl, Nat.le_of_ble_eq_true rfl⟩) kBl_G kOk_G (wC cI q lat und kpl len ncl spe sru sbe sen lets wrds nums tb tp tr knd sec brd rms std f_X3_clear ss sb sp past kept) (cut_c_see cI q lat und kpl len ncl spe sru sbe sen lets wrds nums tb tp tr knd sec brd rms std sn ss sb sp past kept f_X3_clear ss sb sp).1 (cut_c_see cI q lat und kpl len ncl spe sru sbe sen lets wrds nums tb tp tr knd sec brd rms std sn ss sb sp past kept f_X3_clear ss sb sp).2 rfl rfl rfl rfl hl.1 rfl (Nat.le_of_ble_eq_true rfl) dX6_forget_12 (fun H locs hP hD hS => ?_)
  refine lv_iload_n hx hb dX6_forget_15 rfl (lv_at hl 0 rfl) ?_
  have hf : (f_X6_forget sn) = (sn, f_X3_clear) := rfl
  rw [hf] at hret
  dsimp only at hret
  exact hret _ _ _ _ hP hS dX6_forget_16
