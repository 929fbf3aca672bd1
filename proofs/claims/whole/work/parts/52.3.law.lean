section LAW
variable {p : Program} {l : Launch} {e : Env} {s : State} {m : MethodId} {below : List Frame} {meth : Method} {c : Code} {D : va_G} {cI cZ : ClassId} {adK adV : Nat → Nat} {b L : Nat} {xs : Nat → Int32} {q u : Nat → Nat}
variable {H : Heap} {locs : List Loc} {ls : Array Slot} {x3 : Int32} {i : Nat} {Q : State → Prop}
variable {lat : Int32} {und : Int32} {kpl : Int32} {len : Int32} {ncl : Int32} {spe : Int32} {sru : Int32} {sbe : Int32} {sen : Int32} {lets : Nat → Int32} {wrds : Nat → Int32} {nums : Nat → Int32} {tb : Int32} {tp : Int32} {tr : Int32} {knd : Nat → Int32} {sec : Nat → Int32} {brd : Nat → Int32} {rms : Nat → Int32} {std : Nat → Int32} {sn : Int32} {ss : Nat → Int32} {sb : Nat → Int32} {sp : Nat → Int32} {past : Nat → Int32} {kept : Nat → Int32}
variable {w : Nat → Int32} {told : Nat → Int32} {read : Nat → Int32} {isK : Nat → Int32} {undoes : Int32} {text : Nat → Int32} {texted : Int32} {seen : Int32} {seS : Nat → Int32} {seB : Nat → Int32} {seP : Nat → Int32} {at_ : Int32} {start : Int32} {clauses : Int32} {number : Int32} {word : Int64}
set_option maxRecDepth 100000 in
set_option maxHeartbeats 4000000 in
theorem law_back (C0 : lw_At p s m meth c b L xs) (hL : L ≤ 2560) (hK : va_K D vwCl (kTy cI cZ) s) (hG : kG adK adV (fun q : Nat => s.heap.size ≤ q) s) (hi : i + 5 ≤ L) (ex : x3 = nI i) (hl : lv_has ls 4 [(0, .ref b), (1, .ref (q 0)), (2, .ref (u 0)), (3, .int x3)]) (hP : va_P D vwCl (wC cI q lat und kpl len ncl spe sru sbe sen lets wrds nums tb tp tr knd sec brd rms std sn ss sb sp past kept ++ wM cI cZ u w told read isK undoes text texted seen seS seB seP at_ start clauses number word) H) (hD : va_D (fun q : Nat => s.heap.size ≤ q) (wC cI q lat und kpl len ncl spe sru sbe sen lets wrds nums tb tp tr knd sec brd rms std sn ss sb sp past kept ++ wM cI cZ u w told read isK undoes text texted seen seS seB seP at_ start clauses number word)) (hS : va_S (fun q : Nat => s.heap.size ≤ q) s.heap H locs)  (hr : ((f_X6_back und kpl std kept (xs (x3 + 1).toNatClampNeg)).1) = ((f_X7_back w isK undoes (xs (x3 + 1).toNatClampNeg)).1)) (kk : ∀ (H : Heap) (locs : List Loc), va_P D vwCl (wC cI q lat ((f_X6_back und kpl std kept (xs (x3 + 1).toNatClampNeg)).2.1) kpl len ncl spe sru sbe sen lets wrds nums tb tp tr knd sec brd rms ((f_X6_back und kpl std kept (xs (x3 + 1).toNatClampNeg)).2.2) sn ss sb sp past kept ++ wM cI cZ u ((f_X7_back w isK undoes (xs (x3 + 1).toNatClampNeg)).2.1) told read isK ((f_X7_back w isK undoes (xs (x3 + 1).toNatClampNeg)).2.2) text texted seen seS seB seP at_ start clauses number word) H → va_D (fun q : Nat => s.heap.size ≤ q) (wC cI q lat ((f_X6_back und kpl std kept (xs (x3 + 1).toNatClampNeg)).2.1) kpl len ncl spe sru sbe sen lets wrds nums tb tp tr knd sec brd rms ((f_X6_back und kpl std kept (xs (x3 + 1).toNatClampNeg)).2.2) sn ss sb sp past kept ++ wM cI cZ u ((f_X7_back w isK undoes (xs (x3 + 1).toNatClampNeg)).2.1) told read isK ((f_X7_back w isK undoes (xs (x3 + 1).toNatClampNeg)).2.2) text texted seen seS seB seP at_ start clauses number word) → va_S (fun q : Nat => s.heap.size ≤ q) s.heap H locs → W p l e room_1 s m #[Value.ref b] below meth c H locs 600000 7302250 Q (F0 m 863 ls [])) : W p l e room_1 s m #[Value.ref b] below meth c H locs 600000 7302250 Q (F0 m 543 ls []) := by
  obtain ⟨hx, hb, hrt, hml, hown, hts0, hX, hbl, hlocks, hgv⟩ := C0
  have hb : c.code = cL_law := hb
  have hown : s.vm.findClass RL = some m.cls := hown
  have hts : ∀ w ∈ wsL_law, w.before #[Value.ref b] s = true := fun w h => hts0 w (wsL_law_in w h)
  have hA : ∀ q : Nat, s.heap.size ≤ q → (fun q : Nat => s.heap.size ≤ q) q := fun _ h => h
  have hbA : ¬ (fun q : Nat => s.heap.size ≤ q) b := Nat.not_le.mpr hbl
  have v1 : vp_in (x3 + 1) L := by rw [ex]; exact kvin hi hL 1 (by omega)
  refine lv_aload_n hx hb dL_law_543 rfl (lv_at hl 1 rfl) ?_
  refine lv_aload_n hx hb dL_law_544 rfl (lv_at hl 0 rfl) ?_
  refine lv_iload_n hx hb dL_law_545 rfl (lv_at hl 3 rfl) ?_
  refine lv_iconst (v := 1) hx hb dL_law_546 (by decide) ?_
  refine lv_iadd hx hb dL_law_547 ?_
  refine va_sld hx hb hX hbl hbA hS v1 dL_law_548 ?_
  refine kviC (As := [.int (xs (x3 + 1).toNatClampNeg)]) (rest := []) (q0 := 0) (ci := 6) ⟨hx, hb, hml, hown, hts⟩ hP hK hD hS hA hG (k_X6_back l D cI cZ adK adV q lat und kpl len ncl spe sru sbe sen lets wrds nums tb tp tr knd sec brd rms std sn ss sb sp past kept (xs (x3 + 1).toNatClampNeg)) (kcv hts kM_X6_back (kin_28 _ (List.mem_of_getElem? (i := 0) rfl)) ⟨rfl, rfl⟩ ⟨Nat.le_of_ble_eq_true rfl, Nat.le_of_ble_eq_true rfl⟩) kBl_G kOk_G (wC cI q lat ((f_X6_back und kpl std kept (xs (x3 + 1).toNatClampNeg)).2.1) kpl len ncl spe sru sbe sen lets wrds nums tb tp tr knd sec brd rms ((f_X6_back und kpl std kept (xs (x3 + 1).toNatClampNeg)).2.2) sn ss sb sp past kept ++ wM cI cZ u w told read isK undoes text texted seen seS seB seP at_ start clauses number word) (lcut6 cI cZ q u lat und kpl len ncl spe sru sbe sen lets wrds nums tb tp tr knd sec brd rms std sn ss sb sp past kept w told read isK undoes text texted seen seS seB seP at_ start clauses number word lat ((f_X6_back und kpl std kept (xs (x3 + 1).toNatClampNeg)).2.1) kpl len ncl spe sru sbe sen lets wrds nums tb tp tr knd sec brd rms ((f_X6_back und kpl std kept (xs (x3 + 1).toNatClampNeg)).2.2) sn ss sb sp past kept).1 (lcut6 cI cZ q u lat und kpl len ncl spe sru sbe sen lets wrds nums tb tp tr knd sec brd rms std sn ss sb sp past kept w told read isK undoes text texted seen seS seB seP at_ start clauses number word lat ((f_X6_back und kpl std kept (xs (x3 + 1).toNatClampNeg)).2.1) kpl len ncl spe sru sbe sen lets wrds nums tb tp tr knd sec brd rms ((f_X6_back und kpl std kept (xs (x3 + 1).toNatClampNeg)).2.2) sn ss sb sp past kept).2 rfl rfl rfl rfl hl.1 rfl (Nat.le_of_ble_eq_true rfl) dL_law_549 ⟨Nat.le_of_ble_eq_true rfl, Nat.le_of_ble_eq_true rfl⟩ (fun H locs hP hD hS => ?_)
  refine lv_aload_n hx hb dL_law_552 rfl (lv_at hl 2 rfl) ?_
  refine lv_aload_n hx hb dL_law_553 rfl (lv_at hl 0 rfl) ?_
  refine lv_iload_n hx hb dL_law_554 rfl (lv_at hl 3 rfl) ?_
  refine lv_iconst (v := 1) hx hb dL_law_555 (by decide) ?_
  refine lv_iadd hx hb dL_law_556 ?_
  refine va_sld hx hb hX hbl hbA hS v1 dL_law_557 ?_
  refine kviC (As := [.int (xs (x3 + 1).toNatClampNeg)]) (rest := [.int ((f_X6_back und kpl std kept (xs (x3 + 1).toNatClampNeg)).1)]) (q0 := 0) (ci := 7) ⟨hx, hb, hml, hown, hts⟩ hP hK hD hS hA hG (k_X7_back l D cI cZ u w told read isK undoes text texted seen seS seB seP at_ start clauses number word (xs (x3 + 1).toNatClampNeg)) (kcv hts kM_X7_back (kin_28 _ (List.mem_of_getElem? (i := 7) rfl)) ⟨rfl, rfl⟩ ⟨Nat.le_of_ble_eq_true rfl, Nat.le_of_ble_eq_true rfl⟩) kBl_T kOk_T (wC cI q lat ((f_X6_back und kpl std kept (xs (x3 + 1).toNatClampNeg)).2.1) kpl len ncl spe sru sbe sen lets wrds nums tb tp tr knd sec brd rms ((f_X6_back und kpl std kept (xs (x3 + 1).toNatClampNeg)).2.2) sn ss sb sp past kept ++ wM cI cZ u ((f_X7_back w isK undoes (xs (x3 + 1).toNatClampNeg)).2.1) told read isK ((f_X7_back w isK undoes (xs (x3 + 1).toNatClampNeg)).2.2) text texted seen seS seB seP at_ start clauses number word) (lcut7 cI cZ q u lat ((f_X6_back und kpl std kept (xs (x3 + 1).toNatClampNeg)).2.1) kpl len ncl spe sru sbe sen lets wrds nums tb tp tr knd sec brd rms ((f_X6_back und kpl std kept (xs (x3 + 1).toNatClampNeg)).2.2) sn ss sb sp past kept w told read isK undoes text texted seen seS seB seP at_ start clauses number word ((f_X7_back w isK undoes (xs (x3 + 1).toNatClampNeg)).2.1) told read isK ((f_X7_back w isK undoes (xs (x3 + 1).toNatClampNeg)).2.2) text texted seen seS seB seP at_ start clauses number word).1 (lcut7 cI cZ q u lat ((f_X6_back und kpl std kept (xs (x3 + 1).toNatClampNeg)).2.1) kpl len ncl spe sru sbe sen lets wrds nums tb tp tr knd sec brd rms ((f_X6_back und kpl std kept (xs (x3 + 1).toNatClampNeg)).2.2) sn ss sb sp past kept w told read isK undoes text texted seen seS seB seP at_ start clauses number word ((f_X7_back w isK undoes (xs (x3 + 1).toNatClampNeg)).2.1) told read isK ((f_X7_back w isK undoes (xs (x3 + 1).toNatClampNeg)).2.2) text texted seen seS seB seP at_ start clauses number word).2 rfl rfl rfl rfl hl.1 rfl (Nat.le_of_ble_eq_true rfl) dL_law_558 ⟨Nat.le_of_ble_eq_true rfl, Nat.le_of_ble_eq_true rfl⟩ (fun H locs hP hD hS => ?_)
  refine lv_icmp_eq (tgt := 863) hx hb dL_law_561 (by decide) (fun _ => kk _ _ hP hD hS) (fun c9 => absurd hr c9)
set_option maxRecDepth 100000 in
set_option maxHeartbeats 4000000 in
theorem law_smooth (C0 : lw_At p s m meth c b L xs) (hL : L ≤ 2560) (hK : va_K D vwCl (kTy cI cZ) s) (hG : kG adK adV (fun q : Nat => s.heap.size ≤ q) s) (hi : i + 5 ≤ L) (ex : x3 = nI i) (hl : lv_has ls 4 [(0, .ref b), (1, .ref (q 0)), (2, .ref (u 0)), (3, .int x3)]) (hP : va_P D vwCl (wC cI q lat und kpl len ncl spe sru sbe sen lets wrds nums tb tp tr knd sec brd rms std sn ss sb sp past kept ++ wM cI cZ u w told read isK undoes text texted seen seS seB seP at_ start clauses number word) H) (hD : va_D (fun q : Nat => s.heap.size ≤ q) (wC cI q lat und kpl len ncl spe sru sbe sen lets wrds nums tb tp tr knd sec brd rms std sn ss sb sp past kept ++ wM cI cZ u w told read isK undoes text texted seen seS seB seP at_ start clauses number word)) (hS : va_S (fun q : Nat => s.heap.size ≤ q) s.heap H locs) (ghT0 : kb (told 0) 1 5) (ghT1 : kb (told 1) 0 7) (ghT2 : kb (told 2) 0 9) (hr : (f_X6_smooth tb tp tr knd sec rms std (xs (x3 + 1).toNatClampNeg) (xs (x3 + 2).toNatClampNeg) (xs (x3 + 3).toNatClampNeg)) = ((f_X7_smooth w told (xs (x3 + 1).toNatClampNeg) (xs (x3 + 2).toNatClampNeg) (xs (x3 + 3).toNatClampNeg)).1)) (kk : ∀ (H : Heap) (locs : List Loc), va_P D vwCl (wC cI q lat und kpl len ncl spe sru sbe sen lets wrds nums tb tp tr knd sec brd rms std sn ss sb sp past kept ++ wM cI cZ u ((f_X7_smooth w told (xs (x3 + 1).toNatClampNeg) (xs (x3 + 2).toNatClampNeg) (xs (x3 + 3).toNatClampNeg)).2) told read isK undoes text texted seen seS seB seP at_ start clauses number word) H → va_D (fun q : Nat => s.heap.size ≤ q) (wC cI q lat und kpl len ncl spe sru sbe sen lets wrds nums tb tp tr knd sec brd rms std sn ss sb sp past kept ++ wM cI cZ u ((f_X7_smooth w told (xs (x3 + 1).toNatClampNeg) (xs (x3 + 2).toNatClampNeg) (xs (x3 + 3).toNatClampNeg)).2) told read isK undoes text texted seen seS seB seP at_ start clauses number word) → va_S (fun q : Nat => s.heap.size ≤ q) s.heap H locs → W p l e room_1 s m #[Value.ref b] below meth c H locs 600000 7302250 Q (F0 m 863 ls [])) : W p l e room_1 s m #[Value.ref b] below meth c H locs 600000 7302250 Q (F0 m 566 ls []) := by
  obtain ⟨hx, hb, hrt, hml, hown, hts0, hX, hbl, hlocks, hgv⟩ := C0
  have hb : c.code = cL_law := hb
  have hown : s.vm.findClass RL = some m.cls := hown
  have hts : ∀ w ∈ wsL_law, w.before #[Value.ref b] s = true := fun w h => hts0 w (wsL_law_in w h)
  have hA : ∀ q : Nat, s.heap.size ≤ q → (fun q : Nat => s.heap.size ≤ q) q := fun _ h => h
  have hbA : ¬ (fun q : Nat => s.heap.size ≤ q) b := Nat.not_le.mpr hbl
  have v1 : vp_in (x3 + 1) L := by rw [ex]; exact kvin hi hL 1 (by omega)
  have v2 : vp_in (x3 + 2) L := by rw [ex]; exact kvin hi hL 2 (by omega)
  have v3 : vp_in (x3 + 3) L := by rw [ex]; exact kvin hi hL 3 (by omega)
  refine lv_aload_n hx hb dL_law_566 rfl (lv_at hl 1 rfl) ?_
  refine lv_aload_n hx hb dL_law_567 rfl (lv_at hl 0 rfl) ?_
  refine lv_iload_n hx hb dL_law_568 rfl (lv_at hl 3 rfl) ?_
  refine lv_iconst (v := 1) hx hb dL_law_569 (by decide) ?_
  refine lv_iadd hx hb dL_law_570 ?_
  refine va_sld hx hb hX hbl hbA hS v1 dL_law_571 ?_
  refine lv_aload_n hx hb dL_law_572 rfl (lv_at hl 0 rfl) ?_
  refine lv_iload_n hx hb dL_law_573 rfl (lv_at hl 3 rfl) ?_
  refine lv_iconst (v := 2) hx hb dL_law_574 (by decide) ?_
  refine lv_iadd hx hb dL_law_575 ?_
  refine va_sld hx hb hX hbl hbA hS v2 dL_law_576 ?_
  refine lv_aload_n hx hb dL_law_577 rfl (lv_at hl 0 rfl) ?_
  refine lv_iload_n hx hb dL_law_578 rfl (lv_at hl 3 rfl) ?_
  refine lv_iconst (v := 3) hx hb dL_law_579 (by decide) ?_
  refine lv_iadd hx hb dL_law_580 ?_
  refine va_sld hx hb hX hbl hbA hS v3 dL_law_581 ?_
  refine kviC (As := [.int (xs (x3 + 1).toNatClampNeg), .int (xs (x3 + 2).toNatClampNeg), .int (xs (x3 + 3).toNatClampNeg)]) (rest := []) (q0 := 0) (ci := 6) ⟨hx, hb, hml, hown, hts⟩ hP hK hD hS hA hG (k_X6_smooth l D cI cZ adK adV q lat und kpl len ncl spe sru sbe sen lets wrds nums tb tp tr knd sec brd rms std sn ss sb sp past kept (xs (x3 + 1).toNatClampNeg) (xs (x3 + 2).toNatClampNeg) (xs (x3 + 3).toNatClampNeg)) (kcv hts kM_X6_smooth (kin_28 _ (List.mem_of_getElem? (i := 11) rfl)) ⟨rfl, rfl⟩ ⟨Nat.le_of_ble_eq_true rfl, Nat.le_of_ble_eq_true rfl⟩) kBl_G kOk_G (wC cI q lat und kpl len ncl spe sru sbe sen lets wrds nums tb tp tr knd sec brd rms std sn ss sb sp past kept ++ wM cI cZ u w told read isK undoes text texted seen seS seB seP at_ start clauses number word) (lcut6 cI cZ q u lat und kpl len ncl spe sru sbe sen lets wrds nums tb tp tr knd sec brd rms std sn ss sb sp past kept w told read isK undoes text texted seen seS seB seP at_ start clauses number word lat und kpl len ncl spe sru sbe sen lets wrds nums tb tp tr knd sec brd rms std sn ss sb sp past kept).1 (lcut6 cI cZ q u lat und kpl len ncl spe sru sbe sen lets wrds nums tb tp tr knd sec brd rms std sn ss sb sp past kept w told read isK undoes text texted seen seS seB seP at_ start clauses number word lat und kpl len ncl spe sru sbe sen lets wrds nums tb tp tr knd sec brd rms std sn ss sb sp past kept).2 rfl rfl rfl rfl hl.1 rfl (Nat.le_of_ble_eq_true rfl) dL_law_582 ⟨Nat.le_of_ble_eq_true rfl, Nat.le_of_ble_eq_true rfl⟩ (fun H locs hP hD hS => ?_)
  refine lv_aload_n hx hb dL_law_585 rfl (lv_at hl 2 rfl) ?_
  refine lv_aload_n hx hb dL_law_586 rfl (lv_at hl 0 rfl) ?_
  refine lv_iload_n hx hb dL_law_587 rfl (lv_at hl 3 rfl) ?_
  refine lv_iconst (v := 1) hx hb dL_law_588 (by decide) ?_
  refine lv_iadd hx hb dL_law_589 ?_
  refine va_sld hx hb hX hbl hbA hS v1 dL_law_590 ?_
  refine lv_aload_n hx hb dL_law_591 rfl (lv_at hl 0 rfl) ?_
  refine lv_iload_n hx hb dL_law_592 rfl (lv_at hl 3 rfl) ?_
  refine lv_iconst (v := 2) hx hb dL_law_593 (by decide) ?_
  refine lv_iadd hx hb dL_law_594 ?_
  refine va_sld hx hb hX hbl hbA hS v2 dL_law_595 ?_
  refine lv_aload_n hx hb dL_law_596 rfl (lv_at hl 0 rfl) ?_
  refine lv_iload_n hx hb dL_law_597 rfl (lv_at hl 3 rfl) ?_
  refine lv_iconst (v := 3) hx hb dL_law_598 (by decide) ?_
  refine lv_iadd hx hb dL_law_599 ?_
  refine va_sld hx hb hX hbl hbA hS v3 dL_law_600 ?_
  refine kviC (As := [.int (xs (x3 + 1).toNatClampNeg), .int (xs (x3 + 2).toNatClampNeg), .int (xs (x3 + 3).toNatClampNeg)]) (rest := [.int (f_X6_smooth tb tp tr knd sec rms std (xs (x3 + 1).toNatClampNeg) (xs (x3 + 2).toNatClampNeg) (xs (x3 + 3).toNatClampNeg))]) (q0 := 0) (ci := 7) ⟨hx, hb, hml, hown, hts⟩ hP hK hD hS hA hG (k_X7_smooth l D cI cZ u w told read isK undoes text texted seen seS seB seP at_ start clauses number word (xs (x3 + 1).toNatClampNeg) (xs (x3 + 2).toNatClampNeg) (xs (x3 + 3).toNatClampNeg) ghT0 ghT1 ghT2) (kcv hts kM_X7_smooth (kin_29 _ (List.mem_of_getElem? (i := 4) rfl)) ⟨rfl, rfl⟩ ⟨Nat.le_of_ble_eq_true rfl, Nat.le_of_ble_eq_true rfl⟩) kBl_T kOk_T (wC cI q lat und kpl len ncl spe sru sbe sen lets wrds nums tb tp tr knd sec brd rms std sn ss sb sp past kept ++ wM cI cZ u ((f_X7_smooth w told (xs (x3 + 1).toNatClampNeg) (xs (x3 + 2).toNatClampNeg) (xs (x3 + 3).toNatClampNeg)).2) told read isK undoes text texted seen seS seB seP at_ start clauses number word) (lcut7 cI cZ q u lat und kpl len ncl spe sru sbe sen lets wrds nums tb tp tr knd sec brd rms std sn ss sb sp past kept w told read isK undoes text texted seen seS seB seP at_ start clauses number word ((f_X7_smooth w told (xs (x3 + 1).toNatClampNeg) (xs (x3 + 2).toNatClampNeg) (xs (x3 + 3).toNatClampNeg)).2) told read isK undoes text texted seen seS seB seP at_ start clauses number word).1 (lcut7 cI cZ q u lat und kpl len ncl spe sru sbe sen lets wrds nums tb tp tr knd sec brd rms std sn ss sb sp past kept w told read isK undoes text texted seen seS seB seP at_ start clauses number word ((f_X7_smooth w told (xs (x3 + 1).toNatClampNeg) (xs (x3 + 2).toNatClampNeg) (xs (x3 + 3).toNatClampNeg)).2) told read isK undoes text texted seen seS seB seP at_ start clauses number word).2 rfl rfl rfl rfl hl.1 rfl (Nat.le_of_ble_eq_true rfl) dL_law_601 ⟨Nat.le_of_ble_eq_true rfl, Nat.le_of_ble_eq_true rfl⟩ (fun H locs hP hD hS => ?_)
  refine lv_icmp_eq (tgt := 863) hx hb dL_law_604 (by decide) (fun _ => kk _ _ hP hD hS) (fun c9 => absurd hr c9)
set_option maxRecDepth 100000 in
set_option maxHeartbeats 4000000 in
theorem law_next (C0 : lw_At p s m meth c b L xs) (hL : L ≤ 2560) (hK : va_K D vwCl (kTy cI cZ) s) (hG : kG adK adV (fun q : Nat => s.heap.size ≤ q) s) (hi : i + 5 ≤ L) (ex : x3 = nI i) (hl : lv_has ls 4 [(0, .ref b), (1, .ref (q 0)), (2, .ref (u 0)), (3, .int x3)]) (hP : va_P D vwCl (wC cI q lat und kpl len ncl spe sru sbe sen lets wrds nums tb tp tr knd sec brd rms std sn ss sb sp past kept ++ wM cI cZ u w told read isK undoes text texted seen seS seB seP at_ start clauses number word) H) (hD : va_D (fun q : Nat => s.heap.size ≤ q) (wC cI q lat und kpl len ncl spe sru sbe sen lets wrds nums tb tp tr knd sec brd rms std sn ss sb sp past kept ++ wM cI cZ u w told read isK undoes text texted seen seS seB seP at_ start clauses number word)) (hS : va_S (fun q : Nat => s.heap.size ≤ q) s.heap H locs) (ghT0 : kb (told 0) 1 5) (ghT1 : kb (told 1) 0 7) (ghT2 : kb (told 2) 0 9) (hr : (f_X6_next tb tp tr rms std (xs (x3 + 1).toNatClampNeg) (xs (x3 + 2).toNatClampNeg)) = (f_X7_next w told (xs (x3 + 1).toNatClampNeg) (xs (x3 + 2).toNatClampNeg))) (kk : ∀ (H : Heap) (locs : List Loc), va_P D vwCl (wC cI q lat und kpl len ncl spe sru sbe sen lets wrds nums tb tp tr knd sec brd rms std sn ss sb sp past kept ++ wM cI cZ u w told read isK undoes text texted seen seS seB seP at_ start clauses number word) H → va_D (fun q : Nat => s.heap.size ≤ q) (wC cI q lat und kpl len ncl spe sru sbe sen lets wrds nums tb tp tr knd sec brd rms std sn ss sb sp past kept ++ wM cI cZ u w told read isK undoes text texted seen seS seB seP at_ start clauses number word) → va_S (fun q : Nat => s.heap.size ≤ q) s.heap H locs → W p l e room_1 s m #[Value.ref b] below meth c H locs 600000 7302250 Q (F0 m 863 ls [])) : W p l e room_1 s m #[Value.ref b] below meth c H locs 600000 7302250 Q (F0 m 609 ls []) := by
  obtain ⟨hx, hb, hrt, hml, hown, hts0, hX, hbl, hlocks, hgv⟩ := C0
  have hb : c.code = cL_law := hb
  have hown : s.vm.findClass RL = some m.cls := hown
  have hts : ∀ w ∈ wsL_law, w.before #[Value.ref b] s = true := fun w h => hts0 w (wsL_law_in w h)
  have hA : ∀ q : Nat, s.heap.size ≤ q → (fun q : Nat => s.heap.size ≤ q) q := fun _ h => h
  have hbA : ¬ (fun q : Nat => s.heap.size ≤ q) b := Nat.not_le.mpr hbl
  have v1 : vp_in (x3 + 1) L := by rw [ex]; exact kvin hi hL 1 (by omega)
  have v2 : vp_in (x3 + 2) L := by rw [ex]; exact kvin hi hL 2 (by omega)
  refine lv_aload_n hx hb dL_law_609 rfl (lv_at hl 1 rfl) ?_
  refine lv_aload_n hx hb dL_law_610 rfl (lv_at hl 0 rfl) ?_
  refine lv_iload_n hx hb dL_law_611 rfl (lv_at hl 3 rfl) ?_
  refine lv_iconst (v := 1) hx hb dL_law_612 (by decide) ?_
  refine lv_iadd hx hb dL_law_613 ?_
  refine va_sld hx hb hX hbl hbA hS v1 dL_law_614 ?_
  refine lv_aload_n hx hb dL_law_615 rfl (lv_at hl 0 rfl) ?_
  refine lv_iload_n hx hb dL_law_616 rfl (lv_at hl 3 rfl) ?_
  refine lv_iconst (v := 2) hx hb dL_law_617 (by decide) ?_
  refine lv_iadd hx hb dL_law_618 ?_
  refine va_sld hx hb hX hbl hbA hS v2 dL_law_619 ?_
  refine kviC (As := [.int (xs (x3 + 1).toNatClampNeg), .int (xs (x3 + 2).toNatClampNeg)]) (rest := []) (q0 := 0) (ci := 6) ⟨hx, hb, hml, hown, hts⟩ hP hK hD hS hA hG (k_X6_next l D cI cZ adK adV q lat und kpl len ncl spe sru sbe sen lets wrds nums tb tp tr knd sec brd rms std sn ss sb sp past kept (xs (x3 + 1).toNatClampNeg) (xs (x3 + 2).toNatClampNeg)) (kcv hts kM_X6_next (kin_29 _ (List.mem_of_getElem? (i := 19) rfl)) ⟨rfl, rfl⟩ ⟨Nat.le_of_ble_eq_true rfl, Nat.le_of_ble_eq_true rfl⟩) kBl_G kOk_G (wC cI q lat und kpl len ncl spe sru sbe sen lets wrds nums tb tp tr knd sec brd rms std sn ss sb sp past kept ++ wM cI cZ u w told read isK undoes text texted seen seS seB seP at_ start clauses number word) (lcut6 cI cZ q u lat und kpl len ncl spe sru sbe sen lets wrds nums tb tp tr knd sec brd rms std sn ss sb sp past kept w told read isK undoes text texted seen seS seB seP at_ start clauses number word lat und kpl len ncl spe sru sbe sen lets wrds nums tb tp tr knd sec brd rms std sn ss sb sp past kept).1 (lcut6 cI cZ q u lat und kpl len ncl spe sru sbe sen lets wrds nums tb tp tr knd sec brd rms std sn ss sb sp past kept w told read isK undoes text texted seen seS seB seP at_ start clauses number word lat und kpl len ncl spe sru sbe sen lets wrds nums tb tp tr knd sec brd rms std sn ss sb sp past kept).2 rfl rfl rfl rfl hl.1 rfl (Nat.le_of_ble_eq_true rfl) dL_law_620 ⟨Nat.le_of_ble_eq_true rfl, Nat.le_of_ble_eq_true rfl⟩ (fun H locs hP hD hS => ?_)
  refine lv_aload_n hx hb dL_law_623 rfl (lv_at hl 2 rfl) ?_
  refine lv_aload_n hx hb dL_law_624 rfl (lv_at hl 0 rfl) ?_
  refine lv_iload_n hx hb dL_law_625 rfl (lv_at hl 3 rfl) ?_
  refine lv_iconst (v := 1) hx hb dL_law_626 (by decide) ?_
  refine lv_iadd hx hb dL_law_627 ?_
  refine va_sld hx hb hX hbl hbA hS v1 dL_law_628 ?_
  refine lv_aload_n hx hb dL_law_629 rfl (lv_at hl 0 rfl) ?_
  refine lv_iload_n hx hb dL_law_630 rfl (lv_at hl 3 rfl) ?_
  refine lv_iconst (v := 2) hx hb dL_law_631 (by decide) ?_
  refine lv_iadd hx hb dL_law_632 ?_
  refine va_sld hx hb hX hbl hbA hS v2 dL_law_633 ?_
  refine kviC (As := [.int (xs (x3 + 1).toNatClampNeg), .int (xs (x3 + 2).toNatClampNeg)]) (rest := [.int (f_X6_next tb tp tr rms std (xs (x3 + 1).toNatClampNeg) (xs (x3 + 2).toNatClampNeg))]) (q0 := 0) (ci := 7) ⟨hx, hb, hml, hown, hts⟩ hP hK hD hS hA hG (k_X7_next l D cI cZ u w told read isK undoes text texted seen seS seB seP at_ start clauses number word (xs (x3 + 1).toNatClampNeg) (xs (x3 + 2).toNatClampNeg) ghT0 ghT1 ghT2) (kcv hts kM_X7_next (kin_30 _ (List.mem_of_getElem? (i := 4) rfl)) ⟨rfl, rfl⟩ ⟨Nat.le_of_ble_eq_true rfl, Nat.le_of_ble_eq_true rfl⟩) kBl_T kOk_T (wC cI q lat und kpl len ncl spe sru sbe sen lets wrds nums tb tp tr knd sec brd rms std sn ss sb sp past kept ++ wM cI cZ u w told read isK undoes text texted seen seS seB seP at_ start clauses number word) (lcut7 cI cZ q u lat und kpl len ncl spe sru sbe sen lets wrds nums tb tp tr knd sec brd rms std sn ss sb sp past kept w told read isK undoes text texted seen seS seB seP at_ start clauses number word w told read isK undoes text texted seen seS seB seP at_ start clauses number word).1 (lcut7 cI cZ q u lat und kpl len ncl spe sru sbe sen lets wrds nums tb tp tr knd sec brd rms std sn ss sb sp past kept w told read isK undoes text texted seen seS seB seP at_ start clauses number word w told read isK undoes text texted seen seS seB seP at_ start clauses number word).2 rfl rfl rfl rfl hl.1 rfl (Nat.le_of_ble_eq_true rfl) dL_law_634 ⟨Nat.le_of_ble_eq_true rfl, Nat.le_of_ble_eq_true rfl⟩ (fun H locs hP hD hS => ?_)
  refine lv_icmp_eq (tgt := 863) hx hb dL_law_637 (by decide) (fun _ => kk _ _ hP hD hS) (fun c9 => absurd hr c9)
set_option maxRecDepth 100000 in
set_option maxHeartbeats 4000000 in
theorem law_meet (C0 : lw_At p s m meth c b L xs) (hL : L ≤ 2560) (hK : va_K D vwCl (kTy cI cZ) s) (hG : kG adK adV (fun q : Nat => s.heap.size ≤ q) s) (hi : i + 5 ≤ L) (ex : x3 = nI i) (hl : lv_has ls 4 [(0, .ref b), (1, .ref (q 0)), (2, .ref (u 0)), (3, .int x3)]) (hP : va_P D vwCl (wC cI q lat und kpl len ncl spe sru sbe sen lets wrds nums tb tp tr knd sec brd rms std sn ss sb sp past kept ++ wM cI cZ u w told read isK undoes text texted seen seS seB seP at_ start clauses number word) H) (hD : va_D (fun q : Nat => s.heap.size ≤ q) (wC cI q lat und kpl len ncl spe sru sbe sen lets wrds nums tb tp tr knd sec brd rms std sn ss sb sp past kept ++ wM cI cZ u w told read isK undoes text texted seen seS seB seP at_ start clauses number word)) (hS : va_S (fun q : Nat => s.heap.size ≤ q) s.heap H locs) (ghT0 : kb (told 0) 1 5) (ghT1 : kb (told 1) 0 7) (ghT2 : kb (told 2) 0 9) (hr : (f_X6_meet tb tp tr rms std (xs (x3 + 1).toNatClampNeg) (xs (x3 + 2).toNatClampNeg)) = (f_X7_meet w told (xs (x3 + 1).toNatClampNeg) (xs (x3 + 2).toNatClampNeg))) (kk : ∀ (H : Heap) (locs : List Loc), va_P D vwCl (wC cI q lat und kpl len ncl spe sru sbe sen lets wrds nums tb tp tr knd sec brd rms std sn ss sb sp past kept ++ wM cI cZ u w told read isK undoes text texted seen seS seB seP at_ start clauses number word) H → va_D (fun q : Nat => s.heap.size ≤ q) (wC cI q lat und kpl len ncl spe sru sbe sen lets wrds nums tb tp tr knd sec brd rms std sn ss sb sp past kept ++ wM cI cZ u w told read isK undoes text texted seen seS seB seP at_ start clauses number word) → va_S (fun q : Nat => s.heap.size ≤ q) s.heap H locs → W p l e room_1 s m #[Value.ref b] below meth c H locs 600000 7302250 Q (F0 m 863 ls [])) : W p l e room_1 s m #[Value.ref b] below meth c H locs 600000 7302250 Q (F0 m 642 ls []) := by
  obtain ⟨hx, hb, hrt, hml, hown, hts0, hX, hbl, hlocks, hgv⟩ := C0
  have hb : c.code = cL_law := hb
  have hown : s.vm.findClass RL = some m.cls := hown
  have hts : ∀ w ∈ wsL_law, w.before #[Value.ref b] s = true := fun w h => hts0 w (wsL_law_in w h)
  have hA : ∀ q : Nat, s.heap.size ≤ q → (fun q : Nat => s.heap.size ≤ q) q := fun _ h => h
  have hbA : ¬ (fun q : Nat => s.heap.size ≤ q) b := Nat.not_le.mpr hbl
  have v1 : vp_in (x3 + 1) L := by rw [ex]; exact kvin hi hL 1 (by omega)
  have v2 : vp_in (x3 + 2) L := by rw [ex]; exact kvin hi hL 2 (by omega)
  refine lv_aload_n hx hb dL_law_642 rfl (lv_at hl 1 rfl) ?_
  refine lv_aload_n hx hb dL_law_643 rfl (lv_at hl 0 rfl) ?_
  refine lv_iload_n hx hb dL_law_644 rfl (lv_at hl 3 rfl) ?_
  refine lv_iconst (v := 1) hx hb dL_law_645 (by decide) ?_
  refine lv_iadd hx hb dL_law_646 ?_
  refine va_sld hx hb hX hbl hbA hS v1 dL_law_647 ?_
  refine lv_aload_n hx hb dL_law_648 rfl (lv_at hl 0 rfl) ?_
  refine lv_iload_n hx hb dL_law_649 rfl (lv_at hl 3 rfl) ?_
  refine lv_iconst (v := 2) hx hb dL_law_650 (by decide) ?_
  refine lv_iadd hx hb dL_law_651 ?_
  refine va_sld hx hb hX hbl hbA hS v2 dL_law_652 ?_
  refine kviC (As := [.int (xs (x3 + 1).toNatClampNeg), .int (xs (x3 + 2).toNatClampNeg)]) (rest := []) (q0 := 0) (ci := 6) ⟨hx, hb, hml, hown, hts⟩ hP hK hD hS hA hG (k_X6_meet l D cI cZ adK adV q lat und kpl len ncl spe sru sbe sen lets wrds nums tb tp tr knd sec brd rms std sn ss sb sp past kept (xs (x3 + 1).toNatClampNeg) (xs (x3 + 2).toNatClampNeg)) (kcv hts kM_X6_meet (kin_30 _ (List.mem_of_getElem? (i := 8) rfl)) ⟨rfl, rfl⟩ ⟨Nat.le_of_ble_eq_true rfl, Nat.le_of_ble_eq_true rfl⟩) kBl_G kOk_G (wC cI q lat und kpl len ncl spe sru sbe sen lets wrds nums tb tp tr knd sec brd rms std sn ss sb sp past kept ++ wM cI cZ u w told read isK undoes text texted seen seS seB seP at_ start clauses number word) (lcut6 cI cZ q u lat und kpl len ncl spe sru sbe sen lets wrds nums tb tp tr knd sec brd rms std sn ss sb sp past kept w told read isK undoes text texted seen seS seB seP at_ start clauses number word lat und kpl len ncl spe sru sbe sen lets wrds nums tb tp tr knd sec brd rms std sn ss sb sp past kept).1 (lcut6 cI cZ q u lat und kpl len ncl spe sru sbe sen lets wrds nums tb tp tr knd sec brd rms std sn ss sb sp past kept w told read isK undoes text texted seen seS seB seP at_ start clauses number word lat und kpl len ncl spe sru sbe sen lets wrds nums tb tp tr knd sec brd rms std sn ss sb sp past kept).2 rfl rfl rfl rfl hl.1 rfl (Nat.le_of_ble_eq_true rfl) dL_law_653 ⟨Nat.le_of_ble_eq_true rfl, Nat.le_of_ble_eq_true rfl⟩ (fun H locs hP hD hS => ?_)
  refine lv_aload_n hx hb dL_law_656 rfl (lv_at hl 2 rfl) ?_
  refine lv_aload_n hx hb dL_law_657 rfl (lv_at hl 0 rfl) ?_
  refine lv_iload_n hx hb dL_law_658 rfl (lv_at hl 3 rfl) ?_
  refine lv_iconst (v := 1) hx hb dL_law_659 (by decide) ?_
  refine lv_iadd hx hb dL_law_660 ?_
  refine va_sld hx hb hX hbl hbA hS v1 dL_law_661 ?_
  refine lv_aload_n hx hb dL_law_662 rfl (lv_at hl 0 rfl) ?_
  refine lv_iload_n hx hb dL_law_663 rfl (lv_at hl 3 rfl) ?_
  refine lv_iconst (v := 2) hx hb dL_law_664 (by decide) ?_
  refine lv_iadd hx hb dL_law_665 ?_
  refine va_sld hx hb hX hbl hbA hS v2 dL_law_666 ?_
  refine kviC (As := [.int (xs (x3 + 1).toNatClampNeg), .int (xs (x3 + 2).toNatClampNeg)]) (rest := [.int (f_X6_meet tb tp tr rms std (xs (x3 + 1).toNatClampNeg) (xs (x3 + 2).toNatClampNeg))]) (q0 := 0) (ci := 7) ⟨hx, hb, hml, hown, hts⟩ hP hK hD hS hA hG (k_X7_meet l D cI cZ u w told read isK undoes text texted seen seS seB seP at_ start clauses number word (xs (x3 + 1).toNatClampNeg) (xs (x3 + 2).toNatClampNeg) ghT0 ghT1 ghT2) (kcv hts kM_X7_meet (kin_30 _ (List.mem_of_getElem? (i := 16) rfl)) ⟨rfl, rfl⟩ ⟨Nat.le_of_ble_eq_true rfl, Nat.le_of_ble_eq_true rfl⟩) kBl_T kOk_T (wC cI q lat und kpl len ncl spe sru sbe sen lets wrds nums tb tp tr knd sec brd rms std sn ss sb sp past kept ++ wM cI cZ u w told read isK undoes text texted seen seS seB seP at_ start clauses number word) (lcut7 cI cZ q u lat und kpl len ncl spe sru sbe sen lets wrds nums tb tp tr knd sec brd rms std sn ss sb sp past kept w told read isK undoes text texted seen seS seB seP at_ start clauses number word w told read isK undoes text texted seen seS seB seP at_ start clauses number word).1 (lcut7 cI cZ q u lat und kpl len ncl spe sru sbe sen lets wrds nums tb tp tr knd sec brd rms std sn ss sb sp past kept w told read isK undoes text texted seen seS seB seP at_ start clauses number word w told read isK undoes text texted seen seS seB seP at_ start clauses number word).2 rfl rfl rfl rfl hl.1 rfl (Nat.le_of_ble_eq_true rfl) dL_law_667 ⟨Nat.le_of_ble_eq_true rfl, Nat.le_of_ble_eq_true rfl⟩ (fun H locs hP hD hS => ?_)
  refine lv_icmp_eq (tgt := 863) hx hb dL_law_670 (by decide) (fun _ => kk _ _ hP hD hS) (fun c9 => absurd hr c9)
set_option maxRecDepth 100000 in
set_option maxHeartbeats 4000000 in
theorem law_round (C0 : lw_At p s m meth c b L xs) (hL : L ≤ 2560) (hK : va_K D vwCl (kTy cI cZ) s) (hG : kG adK adV (fun q : Nat => s.heap.size ≤ q) s) (hi : i + 5 ≤ L) (ex : x3 = nI i) (hl : lv_has ls 4 [(0, .ref b), (1, .ref (q 0)), (2, .ref (u 0)), (3, .int x3)]) (hP : va_P D vwCl (wC cI q lat und kpl len ncl spe sru sbe sen lets wrds nums tb tp tr knd sec brd rms std sn ss sb sp past kept ++ wM cI cZ u w told read isK undoes text texted seen seS seB seP at_ start clauses number word) H) (hD : va_D (fun q : Nat => s.heap.size ≤ q) (wC cI q lat und kpl len ncl spe sru sbe sen lets wrds nums tb tp tr knd sec brd rms std sn ss sb sp past kept ++ wM cI cZ u w told read isK undoes text texted seen seS seB seP at_ start clauses number word)) (hS : va_S (fun q : Nat => s.heap.size ≤ q) s.heap H locs) (ghT0 : kb (told 0) 1 5) (ghT1 : kb (told 1) 0 7) (ghT2 : kb (told 2) 0 9) (hr : (f_X6_round tb tp tr knd sec rms std (xs (x3 + 1).toNatClampNeg) (xs (x3 + 2).toNatClampNeg) (xs (x3 + 3).toNatClampNeg)) = ((f_X7_round w told (xs (x3 + 1).toNatClampNeg) (xs (x3 + 2).toNatClampNeg) (xs (x3 + 3).toNatClampNeg)).1)) (kk : ∀ (H : Heap) (locs : List Loc), va_P D vwCl (wC cI q lat und kpl len ncl spe sru sbe sen lets wrds nums tb tp tr knd sec brd rms std sn ss sb sp past kept ++ wM cI cZ u ((f_X7_round w told (xs (x3 + 1).toNatClampNeg) (xs (x3 + 2).toNatClampNeg) (xs (x3 + 3).toNatClampNeg)).2) told read isK undoes text texted seen seS seB seP at_ start clauses number word) H → va_D (fun q : Nat => s.heap.size ≤ q) (wC cI q lat und kpl len ncl spe sru sbe sen lets wrds nums tb tp tr knd sec brd rms std sn ss sb sp past kept ++ wM cI cZ u ((f_X7_round w told (xs (x3 + 1).toNatClampNeg) (xs (x3 + 2).toNatClampNeg) (xs (x3 + 3).toNatClampNeg)).2) told read isK undoes text texted seen seS seB seP at_ start clauses number word) → va_S (fun q : Nat => s.heap.size ≤ q) s.heap H locs → W p l e room_1 s m #[Value.ref b] below meth c H locs 600000 7302250 Q (F0 m 863 ls [])) : W p l e room_1 s m #[Value.ref b] below meth c H locs 600000 7302250 Q (F0 m 675 ls []) := by
  obtain ⟨hx, hb, hrt, hml, hown, hts0, hX, hbl, hlocks, hgv⟩ := C0
  have hb : c.code = cL_law := hb
  have hown : s.vm.findClass RL = some m.cls := hown
  have hts : ∀ w ∈ wsL_law, w.before #[Value.ref b] s = true := fun w h => hts0 w (wsL_law_in w h)
  have hA : ∀ q : Nat, s.heap.size ≤ q → (fun q : Nat => s.heap.size ≤ q) q := fun _ h => h
  have hbA : ¬ (fun q : Nat => s.heap.size ≤ q) b := Nat.not_le.mpr hbl
  have v1 : vp_in (x3 + 1) L := by rw [ex]; exact kvin hi hL 1 (by omega)
  have v2 : vp_in (x3 + 2) L := by rw [ex]; exact kvin hi hL 2 (by omega)
  have v3 : vp_in (x3 + 3) L := by rw [ex]; exact kvin hi hL 3 (by omega)
  refine lv_aload_n hx hb dL_law_675 rfl (lv_at hl 1 rfl) ?_
  refine lv_aload_n hx hb dL_law_676 rfl (lv_at hl 0 rfl) ?_
  refine lv_iload_n hx hb dL_law_677 rfl (lv_at hl 3 rfl) ?_
  refine lv_iconst (v := 1) hx hb dL_law_678 (by decide) ?_
  refine lv_iadd hx hb dL_law_679 ?_
  refine va_sld hx hb hX hbl hbA hS v1 dL_law_680 ?_
  refine lv_aload_n hx hb dL_law_681 rfl (lv_at hl 0 rfl) ?_
  refine lv_iload_n hx hb dL_law_682 rfl (lv_at hl 3 rfl) ?_
  refine lv_iconst (v := 2) hx hb dL_law_683 (by decide) ?_
  refine lv_iadd hx hb dL_law_684 ?_
  refine va_sld hx hb hX hbl hbA hS v2 dL_law_685 ?_
  refine lv_aload_n hx hb dL_law_686 rfl (lv_at hl 0 rfl) ?_
  refine lv_iload_n hx hb dL_law_687 rfl (lv_at hl 3 rfl) ?_
  refine lv_iconst (v := 3) hx hb dL_law_688 (by decide) ?_
  refine lv_iadd hx hb dL_law_689 ?_
  refine va_sld hx hb hX hbl hbA hS v3 dL_law_690 ?_
  refine kviC (As := [.int (xs (x3 + 1).toNatClampNeg), .int (xs (x3 + 2).toNatClampNeg), .int (xs (x3 + 3).toNatClampNeg)]) (rest := []) (q0 := 0) (ci := 6) ⟨hx, hb, hml, hown, hts⟩ hP hK hD hS hA hG (k_X6_round l D cI cZ adK adV q lat und kpl len ncl spe sru sbe sen lets wrds nums tb tp tr knd sec brd rms std sn ss sb sp past kept (xs (x3 + 1).toNatClampNeg) (xs (x3 + 2).toNatClampNeg) (xs (x3 + 3).toNatClampNeg)) (kcv hts kM_X6_round (kin_30 _ (List.mem_of_getElem? (i := 20) rfl)) ⟨rfl, rfl⟩ ⟨Nat.le_of_ble_eq_true rfl, Nat.le_of_ble_eq_true rfl⟩) kBl_G kOk_G (wC cI q lat und kpl len ncl spe sru sbe sen lets wrds nums tb tp tr knd sec brd rms std sn ss sb sp past kept ++ wM cI cZ u w told read isK undoes text texted seen seS seB seP at_ start clauses number word) (lcut6 cI cZ q u lat und kpl len ncl spe sru sbe sen lets wrds nums tb tp tr knd sec brd rms std sn ss sb sp past kept w told read isK undoes text texted seen seS seB seP at_ start clauses number word lat und kpl len ncl spe sru sbe sen lets wrds nums tb tp tr knd sec brd rms std sn ss sb sp past kept).1 (lcut6 cI cZ q u lat und kpl len ncl spe sru sbe sen lets wrds nums tb tp tr knd sec brd rms std sn ss sb sp past kept w told read isK undoes text texted seen seS seB seP at_ start clauses number word lat und kpl len ncl spe sru sbe sen lets wrds nums tb tp tr knd sec brd rms std sn ss sb sp past kept).2 rfl rfl rfl rfl hl.1 rfl (Nat.le_of_ble_eq_true rfl) dL_law_691 ⟨Nat.le_of_ble_eq_true rfl, Nat.le_of_ble_eq_true rfl⟩ (fun H locs hP hD hS => ?_)
  refine lv_aload_n hx hb dL_law_694 rfl (lv_at hl 2 rfl) ?_
  refine lv_aload_n hx hb dL_law_695 rfl (lv_at hl 0 rfl) ?_
  refine lv_iload_n hx hb dL_law_696 rfl (lv_at hl 3 rfl) ?_
  refine lv_iconst (v := 1) hx hb dL_law_697 (by decide) ?_
  refine lv_iadd hx hb dL_law_698 ?_
  refine va_sld hx hb hX hbl hbA hS v1 dL_law_699 ?_
  refine lv_aload_n hx hb dL_law_700 rfl (lv_at hl 0 rfl) ?_
  refine lv_iload_n hx hb dL_law_701 rfl (lv_at hl 3 rfl) ?_
  refine lv_iconst (v := 2) hx hb dL_law_702 (by decide) ?_
  refine lv_iadd hx hb dL_law_703 ?_
  refine va_sld hx hb hX hbl hbA hS v2 dL_law_704 ?_
  refine lv_aload_n hx hb dL_law_705 rfl (lv_at hl 0 rfl) ?_
  refine lv_iload_n hx hb dL_law_706 rfl (lv_at hl 3 rfl) ?_
  refine lv_iconst (v := 3) hx hb dL_law_707 (by decide) ?_
  refine lv_iadd hx hb dL_law_708 ?_
  refine va_sld hx hb hX hbl hbA hS v3 dL_law_709 ?_
  refine kviC (As := [.int (xs (x3 + 1).toNatClampNeg), .int (xs (x3 + 2).toNatClampNeg), .int (xs (x3 + 3).toNatClampNeg)]) (rest := [.int (f_X6_round tb tp tr knd sec rms std (xs (x3 + 1).toNatClampNeg) (xs (x3 + 2).toNatClampNeg) (xs (x3 + 3).toNatClampNeg))]) (q0 := 0) (ci := 7) ⟨hx, hb, hml, hown, hts⟩ hP hK hD hS hA hG (k_X7_round l D cI cZ u w told read isK undoes text texted seen seS seB seP at_ start clauses number word (xs (x3 + 1).toNatClampNeg) (xs (x3 + 2).toNatClampNeg) (xs (x3 + 3).toNatClampNeg) ghT0 ghT1 ghT2) (kcv hts kM_X7_round (kin_31 _ (List.mem_of_getElem? (i := 1) rfl)) ⟨rfl, rfl⟩ ⟨Nat.le_of_ble_eq_true rfl, Nat.le_of_ble_eq_true rfl⟩) kBl_T kOk_T (wC cI q lat und kpl len ncl spe sru sbe sen lets wrds nums tb tp tr knd sec brd rms std sn ss sb sp past kept ++ wM cI cZ u ((f_X7_round w told (xs (x3 + 1).toNatClampNeg) (xs (x3 + 2).toNatClampNeg) (xs (x3 + 3).toNatClampNeg)).2) told read isK undoes text texted seen seS seB seP at_ start clauses number word) (lcut7 cI cZ q u lat und kpl len ncl spe sru sbe sen lets wrds nums tb tp tr knd sec brd rms std sn ss sb sp past kept w told read isK undoes text texted seen seS seB seP at_ start clauses number word ((f_X7_round w told (xs (x3 + 1).toNatClampNeg) (xs (x3 + 2).toNatClampNeg) (xs (x3 + 3).toNatClampNeg)).2) told read isK undoes text texted seen seS seB seP at_ start clauses number word).1 (lcut7 cI cZ q u lat und kpl len ncl spe sru sbe sen lets wrds nums tb tp tr knd sec brd rms std sn ss sb sp past kept w told read isK undoes text texted seen seS seB seP at_ start clauses number word ((f_X7_round w told (xs (x3 + 1).toNatClampNeg) (xs (x3 + 2).toNatClampNeg) (xs (x3 + 3).toNatClampNeg)).2) told read isK undoes text texted seen seS seB seP at_ start clauses number word).2 rfl rfl rfl rfl hl.1 rfl (Nat.le_of_ble_eq_true rfl) dL_law_710 ⟨Nat.le_of_ble_eq_true rfl, Nat.le_of_ble_eq_true rfl⟩ (fun H locs hP hD hS => ?_)
  refine lv_icmp_eq (tgt := 863) hx hb dL_law_713 (by decide) (fun _ => kk _ _ hP hD hS) (fun c9 => absurd hr c9)
end LAW
