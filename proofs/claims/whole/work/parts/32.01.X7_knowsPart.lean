def v_X7_knowsPart_41_0 (w : Nat → Int32) (r_ : Int32) (barber : Int32) (person : Int32) (strip : Int32) (part : Int32) : Int32 := if part = 1 then (((upd w (((r_ + 37) + ((6 * barber) + person)).toNatClampNeg) ((w (((r_ + 37) + ((6 * barber) + person)).toNatClampNeg)) ||| (1 <<< (strip &&& 31)))) (((r_ + 61) + ((6 * barber) + person)).toNatClampNeg)) ||| (1 <<< (strip &&& 31))) else (((upd w (((r_ + 37) + ((6 * barber) + person)).toNatClampNeg) ((w (((r_ + 37) + ((6 * barber) + person)).toNatClampNeg)) ||| (1 <<< (strip &&& 31)))) (((r_ + 61) + ((6 * barber) + person)).toNatClampNeg)) &&& ((1 <<< (strip &&& 31)) ^^^ (-1)))
def f_X7_knowsPart (w : Nat → Int32) (r_ : Int32) (barber : Int32) (person : Int32) (strip : Int32) (part : Int32) : (Nat → Int32) := (upd (upd w (((r_ + 37) + ((6 * barber) + person)).toNatClampNeg) ((w (((r_ + 37) + ((6 * barber) + person)).toNatClampNeg)) ||| (1 <<< (strip &&& 31)))) (((r_ + 61) + ((6 * barber) + person)).toNatClampNeg) (v_X7_knowsPart_41_0 w r_ barber person strip part))
abbrev rm_X7_knowsPart : Room := { frames := 0, cells := 0, slots := 0, locals := 0 }
set_option maxRecDepth 100000 in
set_option maxHeartbeats 4000000 in
theorem k_X7_knowsPart (l : Launch) (D : va_G) (cI cZ : ClassId) (u : Nat → Nat) (w : Nat → Int32) (told : Nat → Int32) (read : Nat → Int32) (isK : Nat → Int32) (undoes : Int32) (text : Nat → Int32) (texted : Int32) (seen : Int32) (seS : Nat → Int32) (seB : Nat → Int32) (seP : Nat → Int32) (at_ : Int32) (start : Int32) (clauses : Int32) (number : Int32) (word : Int64) (r_ : Int32) (barber : Int32) (person : Int32) (strip : Int32) (part : Int32) (h_r_ : kb r_ 0 256) (h_barber : kb barber 0 4) (h_person : kb person 0 6) : CV l D (kTy cI cZ) kT yX7_knowsPart (.code yX7_knowsPart cX7_knowsPart 7 none :: wsL_law) rm_X7_knowsPart [.ref (u 0), .int r_, .int barber, .int person, .int strip, .int part] (wM cI cZ u w told read isK undoes text texted seen seS seB seP at_ start clauses number word) (wM cI cZ u (f_X7_knowsPart w r_ barber person strip part) told read isK undoes text texted seen seS seB seP at_ start clauses number word) := by
  refine CV.of (cc := cX7_knowsPart) (maxL := 7) (by decide) rfl (Nat.le_of_ble_eq_true rfl) ?_
  intro p e s m args below meth c A Q ls hx hb hml hts0 hown hA hP hK hD hE hl hret
  have hts : ∀ w ∈ wsL_law, w.before args s = true := fun w h => hts0 w (List.mem_cons_of_mem _ h)
  clear hts0
  have hown : s.vm.findClass RX7 = some m.cls := hown
  have hl : lv_has ls 7 [(0, .ref (u 0)), (1, .int r_), (2, .int barber), (3, .int person), (4, .int strip), (5, .int part)] := hl
  have hS : va_S A s.heap s.heap [] := va_S.rf
  revert hP hS
  suffices hgo : ∀ (H : Heap) (locs : List Loc), va_P D vwCl (wM cI cZ u w told read isK undoes text texted seen seS seB seP at_ start clauses number word) H → va_S A s.heap H locs → W p l e rm_X7_knowsPart s m args below meth c H locs 0 0 Q (F0 m 0 ls []) from fun a b => hgo _ _ a b
  intro H locs hP hS
  refine lv_bipush (v := 6) hx hb dX7_knowsPart_0 (by decide) ?_
  refine lv_iload_n hx hb dX7_knowsPart_2 rfl (lv_at hl 2 rfl) ?_
  refine lv_imul hx hb dX7_knowsPart_3 ?_
  refine lv_iload_n hx hb dX7_knowsPart_4 rfl (lv_at hl 3 rfl) ?_
  refine lv_iadd hx hb dX7_knowsPart_5 ?_
  refine lv_istore (lv' := [(6, .int ((6 * barber) + person)), (0, .ref (u 0)), (1, .int r_), (2, .int barber), (3, .int person), (4, .int strip), (5, .int part)]) hx hb dX7_knowsPart_6 hl (by decide) rfl (fun ls hl => ?_)
  refine lv_aload_n hx hb dX7_knowsPart_8 rfl (lv_at hl 1 rfl) ?_
  refine va_get (D := D) (ci := 7) (v := .ref (u 1)) (C := RX7) (T := TX7) (N := 16) hx hb hts inlX7 hown hK hP 0 rfl rfl 0 (by decide) (kw hts kin_4 22 rfl) (fun _ h9 => h9) rfl dX7_knowsPart_9 ?_
  refine lv_iload_n hx hb dX7_knowsPart_12 rfl (lv_at hl 2 rfl) ?_
  refine lv_bipush (v := 37) hx hb dX7_knowsPart_13 (by decide) ?_
  refine lv_iadd hx hb dX7_knowsPart_15 ?_
  refine lv_iload hx hb dX7_knowsPart_16 (lv_at hl 0 rfl) ?_
  refine lv_iadd hx hb dX7_knowsPart_18 ?_
  refine lv_dup2_11 hx hb dX7_knowsPart_19 rfl rfl ?_
  refine va_iald (cA := cI) (n := 1020) (f := w) hx hb hK hP 1 0 rfl rfl ((kb.add (kb.add h_r_ (kb.lit 37)) (kb.add (kb.mul (c := 6) rfl h_barber) h_person)).in (by decide) (by decide)) dX7_knowsPart_20 ?_
  refine lv_iconst (v := 1) hx hb dX7_knowsPart_21 (by decide) ?_
  refine lv_iload hx hb dX7_knowsPart_22 (lv_at hl 5 rfl) ?_
  refine lv_ishl hx hb dX7_knowsPart_24 ?_
  refine lv_ior hx hb dX7_knowsPart_25 ?_
  refine va_iast (cA := cI) (n := 1020) (f := w) hx hb hK hP hD hS 1 0 rfl rfl ((kb.add (kb.add h_r_ (kb.lit 37)) (kb.add (kb.mul (c := 6) rfl h_barber) h_person)).in (by decide) (by decide)) dX7_knowsPart_26 (fun H locs hP hD hS => ?_)
  have hP : va_P D vwCl (wM cI cZ u (upd w (((r_ + 37) + ((6 * barber) + person)).toNatClampNeg) ((w (((r_ + 37) + ((6 * barber) + person)).toNatClampNeg)) ||| (1 <<< (strip &&& 31)))) told read isK undoes text texted seen seS seB seP at_ start clauses number word) H := hP
  have hD : va_D A (wM cI cZ u (upd w (((r_ + 37) + ((6 * barber) + person)).toNatClampNeg) ((w (((r_ + 37) + ((6 * barber) + person)).toNatClampNeg)) ||| (1 <<< (strip &&& 31)))) told read isK undoes text texted seen seS seB seP at_ start clauses number word) := hD
  refine lv_aload_n hx hb dX7_knowsPart_27 rfl (lv_at hl 1 rfl) ?_
  refine va_get (D := D) (ci := 7) (v := .ref (u 1)) (C := RX7) (T := TX7) (N := 16) hx hb hts inlX7 hown hK hP 0 rfl rfl 0 (by decide) (kw hts kin_4 22 rfl) (fun _ h9 => h9) rfl dX7_knowsPart_28 ?_
  refine lv_iload_n hx hb dX7_knowsPart_31 rfl (lv_at hl 2 rfl) ?_
  refine lv_bipush (v := 61) hx hb dX7_knowsPart_32 (by decide) ?_
  refine lv_iadd hx hb dX7_knowsPart_34 ?_
  refine lv_iload hx hb dX7_knowsPart_35 (lv_at hl 0 rfl) ?_
  refine lv_iadd hx hb dX7_knowsPart_37 ?_
  refine lv_iload hx hb dX7_knowsPart_38 (lv_at hl 6 rfl) ?_
  refine lv_iconst (v := 1) hx hb dX7_knowsPart_40 (by decide) ?_
  have J41 : ∀ (H : Heap) (locs : List Loc) (ls : Array Slot), va_P D vwCl (wM cI cZ u (upd w (((r_ + 37) + ((6 * barber) + person)).toNatClampNeg) ((w (((r_ + 37) + ((6 * barber) + person)).toNatClampNeg)) ||| (1 <<< (strip &&& 31)))) told read isK undoes text texted seen seS seB seP at_ start clauses number word) H → va_D A (wM cI cZ u (upd w (((r_ + 37) + ((6 * barber) + person)).toNatClampNeg) ((w (((r_ + 37) + ((6 * barber) + person)).toNatClampNeg)) ||| (1 <<< (strip &&& 31)))) told read isK undoes text texted seen seS seB seP at_ start clauses number word) → va_S A s.heap H locs → lv_has ls 7 [(0, .ref (u 0)), (1, .int r_), (2, .int barber), (3, .int person), (4, .int strip), (5, .int part), (6, .int ((6 * barber) + person))] → W p l e rm_X7_knowsPart s m args below meth c H locs 0 0 Q (F0 m 83 ls [.int (v_X7_knowsPart_41_0 w r_ barber person strip part), .int ((r_ + 61) + ((6 * barber) + person)), .ref (u 1)]) := by
    intro H locs ls hP hD hS hl
    refine va_iast (cA := cI) (n := 1020) (f := (upd w (((r_ + 37) + ((6 * barber) + person)).toNatClampNeg) ((w (((r_ + 37) + ((6 * barber) + person)).toNatClampNeg)) ||| (1 <<< (strip &&& 31))))) hx hb hK hP hD hS 1 0 rfl rfl ((kb.add (kb.add h_r_ (kb.lit 61)) (kb.add (kb.mul (c := 6) rfl h_barber) h_person)).in (by decide) (by decide)) dX7_knowsPart_83 (fun H locs hP hD hS => ?_)
    have hP : va_P D vwCl (wM cI cZ u (upd (upd w (((r_ + 37) + ((6 * barber) + person)).toNatClampNeg) ((w (((r_ + 37) + ((6 * barber) + person)).toNatClampNeg)) ||| (1 <<< (strip &&& 31)))) (((r_ + 61) + ((6 * barber) + person)).toNatClampNeg) (v_X7_knowsPart_41_0 w r_ barber person strip part)) told read isK undoes text texted seen seS seB seP at_ start clauses number word) H := hP
    have hD : va_D A (wM cI cZ u (upd (upd w (((r_ + 37) + ((6 * barber) + person)).toNatClampNeg) ((w (((r_ + 37) + ((6 * barber) + person)).toNatClampNeg)) ||| (1 <<< (strip &&& 31)))) (((r_ + 61) + ((6 * barber) + person)).toNatClampNeg) (v_X7_knowsPart_41_0 w r_ barber person strip part)) told read isK undoes text texted seen seS seB seP at_ start clauses number word) := hD
    have hf : (f_X7_knowsPart w r_ barber person strip part) = (upd (upd w (((r_ + 37) + ((6 * barber) + person)).toNatClampNeg) ((w (((r_ + 37) + ((6 * barber) + person)).toNatClampNeg)) ||| (1 <<< (strip &&& 31)))) (((r_ + 61) + ((6 * barber) + person)).toNatClampNeg) (v_X7_knowsPart_41_0 w r_ barber person strip part)) := rfl
    rw [hf] at hret
    exact hret _ _ _ _ hP hS dX7_knowsPart_84
  refine lv_icmp_ne (tgt := 64) hx hb dX7_knowsPart_41 (by decide) (fun c_41 => ?_) (fun c_41 => ?_)
  · skip
    refine lv_aload_n hx hb dX7_knowsPart_64 rfl (lv_at hl 1 rfl) ?_
    refine va_get (D := D) (ci := 7) (v := .ref (u 1)) (C := RX7) (T := TX7) (N := 16) hx hb hts inlX7 hown hK hP 0 rfl rfl 0 (by decide) (kw hts kin_4 22 rfl) (fun _ h9 => h9) rfl dX7_knowsPart_65 ?_
    refine lv_iload_n hx hb dX7_knowsPart_68 rfl (lv_at hl 2 rfl) ?_
    refine lv_bipush (v := 61) hx hb dX7_knowsPart_69 (by decide) ?_
    refine lv_iadd hx hb dX7_knowsPart_71 ?_
    refine lv_iload hx hb dX7_knowsPart_72 (lv_at hl 0 rfl) ?_
    refine lv_iadd hx hb dX7_knowsPart_74 ?_
    refine va_iald (cA := cI) (n := 1020) (f := (upd w (((r_ + 37) + ((6 * barber) + person)).toNatClampNeg) ((w (((r_ + 37) + ((6 * barber) + person)).toNatClampNeg)) ||| (1 <<< (strip &&& 31))))) hx hb hK hP 1 0 rfl rfl ((kb.add (kb.add h_r_ (kb.lit 61)) (kb.add (kb.mul (c := 6) rfl h_barber) h_person)).in (by decide) (by decide)) dX7_knowsPart_75 ?_
    refine lv_iconst (v := 1) hx hb dX7_knowsPart_76 (by decide) ?_
    refine lv_iload hx hb dX7_knowsPart_77 (lv_at hl 5 rfl) ?_
    refine lv_ishl hx hb dX7_knowsPart_79 ?_
    refine lv_iconst (v := (-1)) hx hb dX7_knowsPart_80 (by decide) ?_
    refine lv_ixor hx hb dX7_knowsPart_81 ?_
    refine lv_iand hx hb dX7_knowsPart_82 ?_
    rw [show (v_X7_knowsPart_41_0 w r_ barber person strip part) = (((upd w (((r_ + 37) + ((6 * barber) + person)).toNatClampNeg) ((w (((r_ + 37) + ((6 * barber) + person)).toNatClampNeg)) ||| (1 <<< (strip &&& 31)))) (((r_ + 61) + ((6 * barber) + person)).toNatClampNeg)) &&& ((1 <<< (strip &&& 31)) ^^^ (-1))) from (if_neg c_41)] at J41
    exact J41 _ _ _ hP hD hS (lv_sub hl [1, 2, 3, 4, 5, 6, 0] rfl)
  · skip
    refine lv_aload_n hx hb dX7_knowsPart_44 rfl (lv_at hl 1 rfl) ?_
    refine va_get (D := D) (ci := 7) (v := .ref (u 1)) (C := RX7) (T := TX7) (N := 16) hx hb hts inlX7 hown hK hP 0 rfl rfl 0 (by decide) (kw hts kin_4 22 rfl) (fun _ h9 => h9) rfl dX7_knowsPart_45 ?_
    refine lv_iload_n hx hb dX7_knowsPart_48 rfl (lv_at hl 2 rfl) ?_
    refine lv_bipush (v := 61) hx hb dX7_knowsPart_49 (by decide) ?_
    refine lv_iadd hx hb dX7_knowsPart_51 ?_
    refine lv_iload hx hb dX7_knowsPart_52 (lv_at hl 0 rfl) ?_
    refine lv_iadd hx hb dX7_knowsPart_54 ?_
    refine va_iald (cA := cI) (n := 1020) (f := (upd w (((r_ + 37) + ((6 * barber) + person)).toNatClampNeg) ((w (((r_ + 37) + ((6 * barber) + person)).toNatClampNeg)) ||| (1 <<< (strip &&& 31))))) hx hb hK hP 1 0 rfl rfl ((kb.add (kb.add h_r_ (kb.lit 61)) (kb.add (kb.mul (c := 6) rfl h_barber) h_person)).in (by decide) (by decide)) dX7_knowsPart_55 ?_
    refine lv_iconst (v := 1) hx hb dX7_knowsPart_56 (by decide) ?_
    refine lv_iload hx hb dX7_knowsPart_57 (lv_at hl 5 rfl) ?_
    refine lv_ishl hx hb dX7_knowsPart_59 ?_
    refine lv_ior hx hb dX7_knowsPart_60 ?_
    refine lv_goto (tgt := 83) hx hb dX7_knowsPart_61 (by decide) ?_
    rw [show (v_X7_knowsPart_41_0 w r_ barber person strip part) = (((upd w (((r_ + 37) + ((6 * barber) + person)).toNatClampNeg) ((w (((r_ + 37) + ((6 * barber) + person)).toNatClampNeg)) ||| (1 <<< (strip &&& 31)))) (((r_ + 61) + ((6 * barber) + person)).toNatClampNeg)) ||| (1 <<< (strip &&& 31))) from (if_pos c_41)] at J41
    exact J41 _ _ _ hP hD hS (lv_sub hl [1, 2, 3, 4, 5, 6, 0] rfl)
