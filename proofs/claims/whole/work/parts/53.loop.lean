section LAWL
variable {p : Program} {l : Launch} {e : Env} {s : State} {m : MethodId} {below : List Frame} {meth : Method} {c : Code} {D : va_G} {cI cZ : ClassId} {adK adV : Nat → Nat} {b L : Nat} {xs : Nat → Int32} {q u : Nat → Nat}
variable {H : Heap} {locs : List Loc} {ls : Array Slot} {x3 : Int32} {i : Nat} {Q : State → Prop}
variable {lat : Int32} {und : Int32} {kpl : Int32} {len : Int32} {ncl : Int32} {spe : Int32} {sru : Int32} {sbe : Int32} {sen : Int32} {lets : Nat → Int32} {wrds : Nat → Int32} {nums : Nat → Int32} {tb : Int32} {tp : Int32} {tr : Int32} {knd : Nat → Int32} {sec : Nat → Int32} {brd : Nat → Int32} {rms : Nat → Int32} {std : Nat → Int32} {sn : Int32} {ss : Nat → Int32} {sb : Nat → Int32} {sp : Nat → Int32} {past : Nat → Int32} {kept : Nat → Int32}
variable {w : Nat → Int32} {told : Nat → Int32} {read : Nat → Int32} {isK : Nat → Int32} {undoes : Int32} {text : Nat → Int32} {texted : Int32} {seen : Int32} {seS : Nat → Int32} {seB : Nat → Int32} {seP : Nat → Int32} {at_ : Int32} {start : Int32} {clauses : Int32} {number : Int32} {word : Int64}
set_option maxRecDepth 100000 in
set_option maxHeartbeats 8000000 in
theorem law_loop (hRA : RelAll) (hRq : RelAsk) (C0 : lw_At p s m meth c b L xs) (hL : L ≤ 2560) (hK : va_K D vwCl (kTy cI cZ) s) (hG : kG adK adV (fun q : Nat => s.heap.size ≤ q) s) : ∀ (n i : Nat) (x3 : Int32), i ≤ L → L + 1 ≤ i + n → x3 = nI i → ∀ (lat : Int32) (und : Int32) (kpl : Int32) (len : Int32) (ncl : Int32) (spe : Int32) (sru : Int32) (sbe : Int32) (sen : Int32) (lets : Nat → Int32) (wrds : Nat → Int32) (nums : Nat → Int32) (tb : Int32) (tp : Int32) (tr : Int32) (knd : Nat → Int32) (sec : Nat → Int32) (brd : Nat → Int32) (rms : Nat → Int32) (std : Nat → Int32) (sn : Int32) (ss : Nat → Int32) (sb : Nat → Int32) (sp : Nat → Int32) (past : Nat → Int32) (kept : Nat → Int32) (w : Nat → Int32) (told : Nat → Int32) (read : Nat → Int32) (isK : Nat → Int32) (undoes : Int32) (text : Nat → Int32) (texted : Int32) (seen : Int32) (seS : Nat → Int32) (seB : Nat → Int32) (seP : Nat → Int32) (at_ : Int32) (start : Int32) (clauses : Int32) (number : Int32) (word : Int64), Rel lat und kpl len lets tb tp tr knd sec brd rms std sn ss sb sp past kept w told isK undoes text texted seen seS seB seP → ∀ (H : Heap) (locs : List Loc), va_P D vwCl (wC cI q lat und kpl len ncl spe sru sbe sen lets wrds nums tb tp tr knd sec brd rms std sn ss sb sp past kept ++ wM cI cZ u w told read isK undoes text texted seen seS seB seP at_ start clauses number word) H → va_D (fun q : Nat => s.heap.size ≤ q) (wC cI q lat und kpl len ncl spe sru sbe sen lets wrds nums tb tp tr knd sec brd rms std sn ss sb sp past kept ++ wM cI cZ u w told read isK undoes text texted seen seS seB seP at_ start clauses number word) → va_S (fun q : Nat => s.heap.size ≤ q) s.heap H locs → ∀ (ls : Array Slot), lv_has ls 4 [(0, .ref b), (1, .ref (q 0)), (2, .ref (u 0)), (3, .int x3)] → W p l e room_1 s m #[Value.ref b] below meth c H locs 600000 7302250 (lw_Z below #[Value.ref b] s) (F0 m 18 ls []) := by
  have C1 := C0
  obtain ⟨hx, hb, hrt, hml, hown, hts0, hX, hbl, hlocks, hgv⟩ := C1
  have hb : c.code = cL_law := hb
  have hA : ∀ q : Nat, s.heap.size ≤ q → (fun q : Nat => s.heap.size ≤ q) q := fun _ h => h
  have hbA : ¬ (fun q : Nat => s.heap.size ≤ q) b := Nat.not_le.mpr hbl
  obtain ⟨r_write, r_erase, r_fault, r_town, r_person, r_beard, r_rumour, r_knows, r_as, r_shave, r_day, r_talk, r_burn, r_undo, r_keep, r_back, r_smooth, r_next, r_meet, r_round, r_seen, r_forget, r_was, r_stays, r_count⟩ := hRA
  intro n
  induction n with
  | zero =>
    intro i x3 h1 h2
    exact absurd h2 (by omega)
  | succ n ih =>
    intro i x3 hi hin ex lat und kpl len ncl spe sru sbe sen lets wrds nums tb tp tr knd sec brd rms std sn ss sb sp past kept w told read isK undoes text texted seen seS seB seP at_ start clauses number word hR H locs hP hD hS ls hl
    have hQ := hRq lat und kpl len ncl spe sru sbe sen lets wrds nums tb tp tr knd sec brd rms std sn ss sb sp past kept w told read isK undoes text texted seen seS seB seP at_ start clauses number word hR
    refine lv_iload_n hx hb dL_law_18 rfl (lv_at hl 3 rfl) ?_
    refine lv_aload_n hx hb dL_law_19 rfl (lv_at hl 0 rfl) ?_
    refine va_slen hx hb hX hbl hbA hS dL_law_20 ?_
    refine lv_iconst (v := 5) hx hb dL_law_21 (by decide) ?_
    refine lv_isub hx hb dL_law_22 ?_
    refine lv_icmp_gt (tgt := 869) hx hb dL_law_23 (by decide) (fun c_23 => ?_) (fun c_23 => ?_)
    · refine lv_iconst (v := 1) hx hb dL_law_869 (by decide) ?_
      refine va_forget (fun q hq => hS.2.2 q hq) ?_
      exact lw_ret hx hb hrt hlocks dL_law_870
    · have hi5 : i + 5 ≤ L := by rw [ex] at c_23; exact kfive (by omega) (by omega) c_23
      have v0 : vp_in x3 L := by rw [ex]; exact vp_in_nI (by omega) (by omega)
      have K863 : ∀ (lat : Int32) (und : Int32) (kpl : Int32) (len : Int32) (ncl : Int32) (spe : Int32) (sru : Int32) (sbe : Int32) (sen : Int32) (lets : Nat → Int32) (wrds : Nat → Int32) (nums : Nat → Int32) (tb : Int32) (tp : Int32) (tr : Int32) (knd : Nat → Int32) (sec : Nat → Int32) (brd : Nat → Int32) (rms : Nat → Int32) (std : Nat → Int32) (sn : Int32) (ss : Nat → Int32) (sb : Nat → Int32) (sp : Nat → Int32) (past : Nat → Int32) (kept : Nat → Int32) (w : Nat → Int32) (told : Nat → Int32) (read : Nat → Int32) (isK : Nat → Int32) (undoes : Int32) (text : Nat → Int32) (texted : Int32) (seen : Int32) (seS : Nat → Int32) (seB : Nat → Int32) (seP : Nat → Int32) (at_ : Int32) (start : Int32) (clauses : Int32) (number : Int32) (word : Int64), Rel lat und kpl len lets tb tp tr knd sec brd rms std sn ss sb sp past kept w told isK undoes text texted seen seS seB seP → ∀ (H : Heap) (locs : List Loc), va_P D vwCl (wC cI q lat und kpl len ncl spe sru sbe sen lets wrds nums tb tp tr knd sec brd rms std sn ss sb sp past kept ++ wM cI cZ u w told read isK undoes text texted seen seS seB seP at_ start clauses number word) H → va_D (fun q : Nat => s.heap.size ≤ q) (wC cI q lat und kpl len ncl spe sru sbe sen lets wrds nums tb tp tr knd sec brd rms std sn ss sb sp past kept ++ wM cI cZ u w told read isK undoes text texted seen seS seB seP at_ start clauses number word) → va_S (fun q : Nat => s.heap.size ≤ q) s.heap H locs → W p l e room_1 s m #[Value.ref b] below meth c H locs 600000 7302250 (lw_Z below #[Value.ref b] s) (F0 m 863 ls []) := by
        intro lat und kpl len ncl spe sru sbe sen lets wrds nums tb tp tr knd sec brd rms std sn ss sb sp past kept w told read isK undoes text texted seen seS seB seP at_ start clauses number word hR H locs hP hD hS
        obtain ⟨x5, ex5⟩ : ∃ y : Int32, y = x3 + 5 := ⟨_, rfl⟩
        refine lv_iinc (v := x5) (lv' := [(3, .int x5), (0, .ref b), (1, .ref (q 0)), (2, .ref (u 0))]) hx hb dL_law_863 hl (k := 3) rfl (by rw [ex5]; rfl) (by decide) rfl (fun ls hl => ?_)
        refine lv_goto (tgt := 18) hx hb dL_law_866 (by decide) ?_
        exact ih (i + 5) x5 (by omega) (by omega) (by rw [ex5, ex]; exact nI_add i 5) lat und kpl len ncl spe sru sbe sen lets wrds nums tb tp tr knd sec brd rms std sn ss sb sp past kept w told read isK undoes text texted seen seS seB seP at_ start clauses number word hR H locs hP hD hS ls (lv_sub hl [1, 2, 3, 0] rfl)
      refine lv_aload_n hx hb dL_law_26 rfl (lv_at hl 0 rfl) ?_
      refine lv_iload_n hx hb dL_law_27 rfl (lv_at hl 3 rfl) ?_
      refine va_sld hx hb hX hbl hbA hS v0 dL_law_28 ?_
      refine lv_bipush (v := 31) hx hb dL_law_29 (by decide) ?_
      refine lv_iand hx hb dL_law_31 ?_
      obtain ⟨y, hy, ey⟩ := k31 (xs x3.toNatClampNeg)
      rw [ey]
      obtain ⟨hq0, hq1, hq2, hq3, hq4, hq5⟩ := hQ
      match y, hy with
      | 0, _ =>
        refine lv_tableIn (off := 116) (tgt := 148) hx hb dL_law_32 (by decide) (by decide) (by rfl) (by decide) ?_
        have hh := r_write lat und kpl len ncl spe sru sbe sen lets wrds nums tb tp tr knd sec brd rms std sn ss sb sp past kept w told read isK undoes text texted seen seS seB seP at_ start clauses number word (xs (x3 + 1).toNatClampNeg) hR
        exact law_write C0 hL hK hG hi5 ex hl hP hD hS hq0 hh.1 (fun H locs hP hD hS => K863 _ _ _ _ _ _ _ _ _ _ _ _ _ _ _ _ _ _ _ _ _ _ _ _ _ _ _ _ _ _ _ _ _ _ _ _ _ _ _ _ _ _ hh.2 H locs hP hD hS)
      | 1, _ =>
        refine lv_tableIn (off := 139) (tgt := 171) hx hb dL_law_32 (by decide) (by decide) (by rfl) (by decide) ?_
        have hh := r_erase lat und kpl len ncl spe sru sbe sen lets wrds nums tb tp tr knd sec brd rms std sn ss sb sp past kept w told read isK undoes text texted seen seS seB seP at_ start clauses number word  hR
        exact law_erase C0 hL hK hG hi5 ex hl hP hD hS  hh.1 (fun H locs hP hD hS => K863 _ _ _ _ _ _ _ _ _ _ _ _ _ _ _ _ _ _ _ _ _ _ _ _ _ _ _ _ _ _ _ _ _ _ _ _ _ _ _ _ _ _ hh.2 H locs hP hD hS)
      | 2, _ =>
        refine lv_tableIn (off := 152) (tgt := 184) hx hb dL_law_32 (by decide) (by decide) (by rfl) (by decide) ?_
        have hh := r_fault lat und kpl len ncl spe sru sbe sen lets wrds nums tb tp tr knd sec brd rms std sn ss sb sp past kept w told read isK undoes text texted seen seS seB seP at_ start clauses number word  hR
        exact law_fault C0 hL hK hG hi5 ex hl hP hD hS hq0 hq1 hq2 hh.1 (fun H locs hP hD hS => K863 _ _ _ _ _ _ _ _ _ _ _ _ _ _ _ _ _ _ _ _ _ _ _ _ _ _ _ _ _ _ _ _ _ _ _ _ _ _ _ _ _ _ hh.2 H locs hP hD hS)
      | 3, _ =>
        refine lv_tableIn (off := 165) (tgt := 197) hx hb dL_law_32 (by decide) (by decide) (by rfl) (by decide) ?_
        have hh := r_town lat und kpl len ncl spe sru sbe sen lets wrds nums tb tp tr knd sec brd rms std sn ss sb sp past kept w told read isK undoes text texted seen seS seB seP at_ start clauses number word  hR
        exact law_town C0 hL hK hG hi5 ex hl hP hD hS hq0 hq1 hq2 hh.1 (fun H locs hP hD hS => K863 _ _ _ _ _ _ _ _ _ _ _ _ _ _ _ _ _ _ _ _ _ _ _ _ _ _ _ _ _ _ _ _ _ _ _ _ _ _ _ _ _ _ hh.2 H locs hP hD hS)
      | 4, _ =>
        refine lv_tableIn (off := 178) (tgt := 210) hx hb dL_law_32 (by decide) (by decide) (by rfl) (by decide) ?_
        have hh := r_person lat und kpl len ncl spe sru sbe sen lets wrds nums tb tp tr knd sec brd rms std sn ss sb sp past kept w told read isK undoes text texted seen seS seB seP at_ start clauses number word (xs (x3 + 1).toNatClampNeg) (xs (x3 + 2).toNatClampNeg) hR
        exact law_person C0 hL hK hG hi5 ex hl hP hD hS hq1 hh.1 (fun H locs hP hD hS => K863 _ _ _ _ _ _ _ _ _ _ _ _ _ _ _ _ _ _ _ _ _ _ _ _ _ _ _ _ _ _ _ _ _ _ _ _ _ _ _ _ _ _ hh.2 H locs hP hD hS)
      | 5, _ =>
        refine lv_tableIn (off := 211) (tgt := 243) hx hb dL_law_32 (by decide) (by decide) (by rfl) (by decide) ?_
        have hh := r_beard lat und kpl len ncl spe sru sbe sen lets wrds nums tb tp tr knd sec brd rms std sn ss sb sp past kept w told read isK undoes text texted seen seS seB seP at_ start clauses number word (xs (x3 + 1).toNatClampNeg) (xs (x3 + 2).toNatClampNeg) hR
        exact law_beard C0 hL hK hG hi5 ex hl hP hD hS hq1 hh.1 (fun H locs hP hD hS => K863 _ _ _ _ _ _ _ _ _ _ _ _ _ _ _ _ _ _ _ _ _ _ _ _ _ _ _ _ _ _ _ _ _ _ _ _ _ _ _ _ _ _ hh.2 H locs hP hD hS)
      | 6, _ =>
        refine lv_tableIn (off := 244) (tgt := 276) hx hb dL_law_32 (by decide) (by decide) (by rfl) (by decide) ?_
        have hh := r_rumour lat und kpl len ncl spe sru sbe sen lets wrds nums tb tp tr knd sec brd rms std sn ss sb sp past kept w told read isK undoes text texted seen seS seB seP at_ start clauses number word (xs (x3 + 1).toNatClampNeg) hR
        exact law_rumour C0 hL hK hG hi5 ex hl hP hD hS hq2 hh.1 (fun H locs hP hD hS => K863 _ _ _ _ _ _ _ _ _ _ _ _ _ _ _ _ _ _ _ _ _ _ _ _ _ _ _ _ _ _ _ _ _ _ _ _ _ _ _ _ _ _ hh.2 H locs hP hD hS)
      | 7, _ =>
        refine lv_tableIn (off := 267) (tgt := 299) hx hb dL_law_32 (by decide) (by decide) (by rfl) (by decide) ?_
        have hh := r_knows lat und kpl len ncl spe sru sbe sen lets wrds nums tb tp tr knd sec brd rms std sn ss sb sp past kept w told read isK undoes text texted seen seS seB seP at_ start clauses number word (xs (x3 + 1).toNatClampNeg) (xs (x3 + 2).toNatClampNeg) (xs (x3 + 3).toNatClampNeg) hR
        exact law_knows C0 hL hK hG hi5 ex hl hP hD hS hq3 hq1 hq2 hh.1 (fun H locs hP hD hS => K863 _ _ _ _ _ _ _ _ _ _ _ _ _ _ _ _ _ _ _ _ _ _ _ _ _ _ _ _ _ _ _ _ _ _ _ _ _ _ _ _ _ _ hh.2 H locs hP hD hS)
      | 8, _ =>
        refine lv_tableIn (off := 310) (tgt := 342) hx hb dL_law_32 (by decide) (by decide) (by rfl) (by decide) ?_
        have hh := r_as lat und kpl len ncl spe sru sbe sen lets wrds nums tb tp tr knd sec brd rms std sn ss sb sp past kept w told read isK undoes text texted seen seS seB seP at_ start clauses number word (xs (x3 + 1).toNatClampNeg) (xs (x3 + 2).toNatClampNeg) hR
        exact law_as C0 hL hK hG hi5 ex hl hP hD hS hq1 hh.1 (fun H locs hP hD hS => K863 _ _ _ _ _ _ _ _ _ _ _ _ _ _ _ _ _ _ _ _ _ _ _ _ _ _ _ _ _ _ _ _ _ _ _ _ _ _ _ _ _ _ hh.2 H locs hP hD hS)
      | 9, _ =>
        refine lv_tableIn (off := 343) (tgt := 375) hx hb dL_law_32 (by decide) (by decide) (by rfl) (by decide) ?_
        have hh := r_shave lat und kpl len ncl spe sru sbe sen lets wrds nums tb tp tr knd sec brd rms std sn ss sb sp past kept w told read isK undoes text texted seen seS seB seP at_ start clauses number word (xs (x3 + 1).toNatClampNeg) (xs (x3 + 2).toNatClampNeg) (xs (x3 + 3).toNatClampNeg) hR
        exact law_shave C0 hL hK hG hi5 ex hl hP hD hS hq3 hq1 hq4 hh.1 (fun H locs hP hD hS => K863 _ _ _ _ _ _ _ _ _ _ _ _ _ _ _ _ _ _ _ _ _ _ _ _ _ _ _ _ _ _ _ _ _ _ _ _ _ _ _ _ _ _ hh.2 H locs hP hD hS)
      | 10, _ =>
        refine lv_tableIn (off := 386) (tgt := 418) hx hb dL_law_32 (by decide) (by decide) (by rfl) (by decide) ?_
        have hh := r_day lat und kpl len ncl spe sru sbe sen lets wrds nums tb tp tr knd sec brd rms std sn ss sb sp past kept w told read isK undoes text texted seen seS seB seP at_ start clauses number word  hR
        exact law_day C0 hL hK hG hi5 ex hl hP hD hS hq1 hq4 hh.1 (fun H locs hP hD hS => K863 _ _ _ _ _ _ _ _ _ _ _ _ _ _ _ _ _ _ _ _ _ _ _ _ _ _ _ _ _ _ _ _ _ _ _ _ _ _ _ _ _ _ hh.2 H locs hP hD hS)
      | 11, _ =>
        refine lv_tableIn (off := 399) (tgt := 431) hx hb dL_law_32 (by decide) (by decide) (by rfl) (by decide) ?_
        have hh := r_talk lat und kpl len ncl spe sru sbe sen lets wrds nums tb tp tr knd sec brd rms std sn ss sb sp past kept w told read isK undoes text texted seen seS seB seP at_ start clauses number word (xs (x3 + 1).toNatClampNeg) (xs (x3 + 2).toNatClampNeg) (xs (x3 + 3).toNatClampNeg) hR
        exact law_talk C0 hL hK hG hi5 ex hl hP hD hS hq3 hq1 hq4 hh.1 (fun H locs hP hD hS => K863 _ _ _ _ _ _ _ _ _ _ _ _ _ _ _ _ _ _ _ _ _ _ _ _ _ _ _ _ _ _ _ _ _ _ _ _ _ _ _ _ _ _ hh.2 H locs hP hD hS)
      | 12, _ =>
        refine lv_tableIn (off := 442) (tgt := 474) hx hb dL_law_32 (by decide) (by decide) (by rfl) (by decide) ?_
        have hh := r_burn lat und kpl len ncl spe sru sbe sen lets wrds nums tb tp tr knd sec brd rms std sn ss sb sp past kept w told read isK undoes text texted seen seS seB seP at_ start clauses number word (xs (x3 + 1).toNatClampNeg) (xs (x3 + 2).toNatClampNeg) hR
        exact law_burn C0 hL hK hG hi5 ex hl hP hD hS hq3 hq1 hq4 hh.1 (fun H locs hP hD hS => K863 _ _ _ _ _ _ _ _ _ _ _ _ _ _ _ _ _ _ _ _ _ _ _ _ _ _ _ _ _ _ _ _ _ _ _ _ _ _ _ _ _ _ hh.2 H locs hP hD hS)
      | 13, _ =>
        refine lv_tableIn (off := 475) (tgt := 507) hx hb dL_law_32 (by decide) (by decide) (by rfl) (by decide) ?_
        have hh := r_undo lat und kpl len ncl spe sru sbe sen lets wrds nums tb tp tr knd sec brd rms std sn ss sb sp past kept w told read isK undoes text texted seen seS seB seP at_ start clauses number word  hR
        exact law_undo C0 hL hK hG hi5 ex hl hP hD hS hq4 hh.1 (fun H locs hP hD hS => K863 _ _ _ _ _ _ _ _ _ _ _ _ _ _ _ _ _ _ _ _ _ _ _ _ _ _ _ _ _ _ _ _ _ _ _ _ _ _ _ _ _ _ hh.2 H locs hP hD hS)
      | 14, _ =>
        refine lv_tableIn (off := 488) (tgt := 520) hx hb dL_law_32 (by decide) (by decide) (by rfl) (by decide) ?_
        have hh := r_keep lat und kpl len ncl spe sru sbe sen lets wrds nums tb tp tr knd sec brd rms std sn ss sb sp past kept w told read isK undoes text texted seen seS seB seP at_ start clauses number word (xs (x3 + 1).toNatClampNeg) hR
        exact law_keep C0 hL hK hG hi5 ex hl hP hD hS  hh.1 (fun H locs hP hD hS => K863 _ _ _ _ _ _ _ _ _ _ _ _ _ _ _ _ _ _ _ _ _ _ _ _ _ _ _ _ _ _ _ _ _ _ _ _ _ _ _ _ _ _ hh.2 H locs hP hD hS)
      | 15, _ =>
        refine lv_tableIn (off := 511) (tgt := 543) hx hb dL_law_32 (by decide) (by decide) (by rfl) (by decide) ?_
        have hh := r_back lat und kpl len ncl spe sru sbe sen lets wrds nums tb tp tr knd sec brd rms std sn ss sb sp past kept w told read isK undoes text texted seen seS seB seP at_ start clauses number word (xs (x3 + 1).toNatClampNeg) hR
        exact law_back C0 hL hK hG hi5 ex hl hP hD hS  hh.1 (fun H locs hP hD hS => K863 _ _ _ _ _ _ _ _ _ _ _ _ _ _ _ _ _ _ _ _ _ _ _ _ _ _ _ _ _ _ _ _ _ _ _ _ _ _ _ _ _ _ hh.2 H locs hP hD hS)
      | 16, _ =>
        refine lv_tableIn (off := 534) (tgt := 566) hx hb dL_law_32 (by decide) (by decide) (by rfl) (by decide) ?_
        have hh := r_smooth lat und kpl len ncl spe sru sbe sen lets wrds nums tb tp tr knd sec brd rms std sn ss sb sp past kept w told read isK undoes text texted seen seS seB seP at_ start clauses number word (xs (x3 + 1).toNatClampNeg) (xs (x3 + 2).toNatClampNeg) (xs (x3 + 3).toNatClampNeg) hR
        exact law_smooth C0 hL hK hG hi5 ex hl hP hD hS hq3 hq1 hq2 hh.1 (fun H locs hP hD hS => K863 _ _ _ _ _ _ _ _ _ _ _ _ _ _ _ _ _ _ _ _ _ _ _ _ _ _ _ _ _ _ _ _ _ _ _ _ _ _ _ _ _ _ hh.2 H locs hP hD hS)
      | 17, _ =>
        refine lv_tableIn (off := 577) (tgt := 609) hx hb dL_law_32 (by decide) (by decide) (by rfl) (by decide) ?_
        have hh := r_next lat und kpl len ncl spe sru sbe sen lets wrds nums tb tp tr knd sec brd rms std sn ss sb sp past kept w told read isK undoes text texted seen seS seB seP at_ start clauses number word (xs (x3 + 1).toNatClampNeg) (xs (x3 + 2).toNatClampNeg) hR
        exact law_next C0 hL hK hG hi5 ex hl hP hD hS hq3 hq1 hq2 hh.1 (fun H locs hP hD hS => K863 _ _ _ _ _ _ _ _ _ _ _ _ _ _ _ _ _ _ _ _ _ _ _ _ _ _ _ _ _ _ _ _ _ _ _ _ _ _ _ _ _ _ hh.2 H locs hP hD hS)
      | 18, _ =>
        refine lv_tableIn (off := 610) (tgt := 642) hx hb dL_law_32 (by decide) (by decide) (by rfl) (by decide) ?_
        have hh := r_meet lat und kpl len ncl spe sru sbe sen lets wrds nums tb tp tr knd sec brd rms std sn ss sb sp past kept w told read isK undoes text texted seen seS seB seP at_ start clauses number word (xs (x3 + 1).toNatClampNeg) (xs (x3 + 2).toNatClampNeg) hR
        exact law_meet C0 hL hK hG hi5 ex hl hP hD hS hq3 hq1 hq2 hh.1 (fun H locs hP hD hS => K863 _ _ _ _ _ _ _ _ _ _ _ _ _ _ _ _ _ _ _ _ _ _ _ _ _ _ _ _ _ _ _ _ _ _ _ _ _ _ _ _ _ _ hh.2 H locs hP hD hS)
      | 19, _ =>
        refine lv_tableIn (off := 643) (tgt := 675) hx hb dL_law_32 (by decide) (by decide) (by rfl) (by decide) ?_
        have hh := r_round lat und kpl len ncl spe sru sbe sen lets wrds nums tb tp tr knd sec brd rms std sn ss sb sp past kept w told read isK undoes text texted seen seS seB seP at_ start clauses number word (xs (x3 + 1).toNatClampNeg) (xs (x3 + 2).toNatClampNeg) (xs (x3 + 3).toNatClampNeg) hR
        exact law_round C0 hL hK hG hi5 ex hl hP hD hS hq3 hq1 hq2 hh.1 (fun H locs hP hD hS => K863 _ _ _ _ _ _ _ _ _ _ _ _ _ _ _ _ _ _ _ _ _ _ _ _ _ _ _ _ _ _ _ _ _ _ _ _ _ _ _ _ _ _ hh.2 H locs hP hD hS)
      | 20, _ =>
        refine lv_tableIn (off := 686) (tgt := 718) hx hb dL_law_32 (by decide) (by decide) (by rfl) (by decide) ?_
        have hh := r_seen lat und kpl len ncl spe sru sbe sen lets wrds nums tb tp tr knd sec brd rms std sn ss sb sp past kept w told read isK undoes text texted seen seS seB seP at_ start clauses number word (xs (x3 + 1).toNatClampNeg) (xs (x3 + 2).toNatClampNeg) (xs (x3 + 3).toNatClampNeg) hR
        exact law_seen C0 hL hK hG hi5 ex hl hP hD hS hq5 hh.1 (fun H locs hP hD hS => K863 _ _ _ _ _ _ _ _ _ _ _ _ _ _ _ _ _ _ _ _ _ _ _ _ _ _ _ _ _ _ _ _ _ _ _ _ _ _ _ _ _ _ hh.2 H locs hP hD hS)
      | 21, _ =>
        refine lv_tableIn (off := 729) (tgt := 761) hx hb dL_law_32 (by decide) (by decide) (by rfl) (by decide) ?_
        have hh := r_forget lat und kpl len ncl spe sru sbe sen lets wrds nums tb tp tr knd sec brd rms std sn ss sb sp past kept w told read isK undoes text texted seen seS seB seP at_ start clauses number word  hR
        exact law_forget C0 hL hK hG hi5 ex hl hP hD hS  hh.1 (fun H locs hP hD hS => K863 _ _ _ _ _ _ _ _ _ _ _ _ _ _ _ _ _ _ _ _ _ _ _ _ _ _ _ _ _ _ _ _ _ _ _ _ _ _ _ _ _ _ hh.2 H locs hP hD hS)
      | 22, _ =>
        refine lv_tableIn (off := 742) (tgt := 774) hx hb dL_law_32 (by decide) (by decide) (by rfl) (by decide) ?_
        have hh := r_was lat und kpl len ncl spe sru sbe sen lets wrds nums tb tp tr knd sec brd rms std sn ss sb sp past kept w told read isK undoes text texted seen seS seB seP at_ start clauses number word  hR
        exact law_was C0 hL hK hG hi5 ex hl hP hD hS hq1 hq5 hh.1 (fun H locs hP hD hS => K863 _ _ _ _ _ _ _ _ _ _ _ _ _ _ _ _ _ _ _ _ _ _ _ _ _ _ _ _ _ _ _ _ _ _ _ _ _ _ _ _ _ _ hh.2 H locs hP hD hS)
      | 23, _ =>
        refine lv_tableIn (off := 755) (tgt := 787) hx hb dL_law_32 (by decide) (by decide) (by rfl) (by decide) ?_
        have hh := r_stays lat und kpl len ncl spe sru sbe sen lets wrds nums tb tp tr knd sec brd rms std sn ss sb sp past kept w told read isK undoes text texted seen seS seB seP at_ start clauses number word (xs (x3 + 1).toNatClampNeg) (xs (x3 + 2).toNatClampNeg) (xs (x3 + 3).toNatClampNeg) (xs (x3 + 4).toNatClampNeg) hR
        exact law_stays C0 hL hK hG hi5 ex hl hP hD hS hq3 hq1 hq2 hh.1 (fun H locs hP hD hS => K863 _ _ _ _ _ _ _ _ _ _ _ _ _ _ _ _ _ _ _ _ _ _ _ _ _ _ _ _ _ _ _ _ _ _ _ _ _ _ _ _ _ _ hh.2 H locs hP hD hS)
      | 24, _ =>
        refine lv_tableIn (off := 808) (tgt := 840) hx hb dL_law_32 (by decide) (by decide) (by rfl) (by decide) ?_
        have hh := r_count lat und kpl len ncl spe sru sbe sen lets wrds nums tb tp tr knd sec brd rms std sn ss sb sp past kept w told read isK undoes text texted seen seS seB seP at_ start clauses number word (xs (x3 + 1).toNatClampNeg) hR
        exact law_count C0 hL hK hG hi5 ex hl hP hD hS hq1 hh.1 (fun H locs hP hD hS => K863 _ _ _ _ _ _ _ _ _ _ _ _ _ _ _ _ _ _ _ _ _ _ _ _ _ _ _ _ _ _ _ _ _ _ _ _ _ _ _ _ _ _ hh.2 H locs hP hD hS)
      | y + 25, hy =>
        refine lv_tableOut (tgt := 863) hx hb dL_law_32 (Or.inr (by rw [nI_toInt (by omega)]; omega)) (by decide) ?_
        exact K863 lat und kpl len ncl spe sru sbe sen lets wrds nums tb tp tr knd sec brd rms std sn ss sb sp past kept w told read isK undoes text texted seen seS seB seP at_ start clauses number word hR H locs hP hD hS
end LAWL
