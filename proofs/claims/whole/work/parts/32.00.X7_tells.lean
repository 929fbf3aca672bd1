def v_X7_tells_50_0 (told : Nat → Int32) (person : Int32) (strip : Int32) (beard : Int32) : Int32 := if 3 ≤ beard then (((told ((9 + person).toNatClampNeg)) >>> (strip &&& 31)) &&& 1) else (-1)
def v_X7_tells_62_0 (told : Nat → Int32) (person : Int32) (strip : Int32) : Int32 := if strip = 2 then (-1) else (((told ((9 + person).toNatClampNeg)) >>> (strip &&& 31)) &&& 1)
def v_X7_tells_74_0 (told : Nat → Int32) (person : Int32) (strip : Int32) (beard : Int32) : Int32 := if 5 ≤ beard then (1 - (((told ((9 + person).toNatClampNeg)) >>> (strip &&& 31)) &&& 1)) else (((told ((9 + person).toNatClampNeg)) >>> (strip &&& 31)) &&& 1)
def f_X7_tells (told : Nat → Int32) (person : Int32) (strip : Int32) (beard : Int32) : Int32 := if (told ((3 + person).toNatClampNeg)) = 1 then (v_X7_tells_50_0 told person strip beard) else (if (told ((3 + person).toNatClampNeg)) = 2 then (v_X7_tells_62_0 told person strip) else (if (told ((3 + person).toNatClampNeg)) = 3 then (v_X7_tells_74_0 told person strip beard) else (((told ((9 + person).toNatClampNeg)) >>> (strip &&& 31)) &&& 1)))
abbrev rm_X7_tells : Room := { frames := 0, cells := 0, slots := 0, locals := 0 }
set_option maxRecDepth 100000 in
set_option maxHeartbeats 4000000 in
theorem k_X7_tells (l : Launch) (D : va_G) (cI cZ : ClassId) (u : Nat → Nat) (w : Nat → Int32) (told : Nat → Int32) (read : Nat → Int32) (isK : Nat → Int32) (undoes : Int32) (text : Nat → Int32) (texted : Int32) (seen : Int32) (seS : Nat → Int32) (seB : Nat → Int32) (seP : Nat → Int32) (at_ : Int32) (start : Int32) (clauses : Int32) (number : Int32) (word : Int64) (person : Int32) (strip : Int32) (beard : Int32) (h_person : kb person 0 6) : CI l D (kTy cI cZ) kT yX7_tells (.code yX7_tells cX7_tells 5 (some .int) :: wsL_law) rm_X7_tells [.ref (u 0), .int person, .int strip, .int beard] (wM cI cZ u w told read isK undoes text texted seen seS seB seP at_ start clauses number word) (wM cI cZ u w told read isK undoes text texted seen seS seB seP at_ start clauses number word) (f_X7_tells told person strip beard) := by
  refine CI.of (cc := cX7_tells) (maxL := 5) (ty := .int) (by decide) rfl (Nat.le_of_ble_eq_true rfl) rfl ?_
  intro p e s m args below meth c A Q ls hx hb hml hts0 hown hA hP hK hD hE hl hret
  have hts : ∀ w ∈ wsL_law, w.before args s = true := fun w h => hts0 w (List.mem_cons_of_mem _ h)
  clear hts0
  have hown : s.vm.findClass RX7 = some m.cls := hown
  have hl : lv_has ls 5 [(0, .ref (u 0)), (1, .int person), (2, .int strip), (3, .int beard)] := hl
  have hS : va_S A s.heap s.heap [] := va_S.rf
  revert hP hS
  suffices hgo : ∀ (H : Heap) (locs : List Loc), va_P D vwCl (wM cI cZ u w told read isK undoes text texted seen seS seB seP at_ start clauses number word) H → va_S A s.heap H locs → W p l e rm_X7_tells s m args below meth c H locs 0 0 Q (F0 m 0 ls []) from fun a b => hgo _ _ a b
  intro H locs hP hS
  refine lv_aload_n hx hb dX7_tells_0 rfl (lv_at hl 0 rfl) ?_
  refine va_get (D := D) (ci := 7) (v := .ref (u 2)) (C := RX7) (T := TX7) (N := 16) hx hb hts inlX7 hown hK hP 0 rfl rfl 1 (by decide) (kw hts kin_4 23 rfl) (fun _ h9 => h9) rfl dX7_tells_1 ?_
  refine lv_bipush (v := 9) hx hb dX7_tells_4 (by decide) ?_
  refine lv_iload_n hx hb dX7_tells_6 rfl (lv_at hl 1 rfl) ?_
  refine lv_iadd hx hb dX7_tells_7 ?_
  refine va_iald (cA := cI) (n := 59) (f := told) hx hb hK hP 2 0 rfl rfl ((kb.add (kb.lit 9) h_person).in (by decide) (by decide)) dX7_tells_8 ?_
  refine lv_iload_n hx hb dX7_tells_9 rfl (lv_at hl 2 rfl) ?_
  refine lv_ishr hx hb dX7_tells_10 ?_
  refine lv_iconst (v := 1) hx hb dX7_tells_11 (by decide) ?_
  refine lv_iand hx hb dX7_tells_12 ?_
  refine lv_istore (lv' := [(4, .int (((told ((9 + person).toNatClampNeg)) >>> (strip &&& 31)) &&& 1)), (0, .ref (u 0)), (1, .int person), (2, .int strip), (3, .int beard)]) hx hb dX7_tells_13 hl (by decide) rfl (fun ls hl => ?_)
  refine lv_aload_n hx hb dX7_tells_15 rfl (lv_at hl 1 rfl) ?_
  refine va_get (D := D) (ci := 7) (v := .ref (u 2)) (C := RX7) (T := TX7) (N := 16) hx hb hts inlX7 hown hK hP 0 rfl rfl 1 (by decide) (kw hts kin_4 23 rfl) (fun _ h9 => h9) rfl dX7_tells_16 ?_
  refine lv_iconst (v := 3) hx hb dX7_tells_19 (by decide) ?_
  refine lv_iload_n hx hb dX7_tells_20 rfl (lv_at hl 2 rfl) ?_
  refine lv_iadd hx hb dX7_tells_21 ?_
  refine va_iald (cA := cI) (n := 59) (f := told) hx hb hK hP 2 0 rfl rfl ((kb.add (kb.lit 3) h_person).in (by decide) (by decide)) dX7_tells_22 ?_
  by_cases c_23_0 : (told ((3 + person).toNatClampNeg)) = 1
  · skip
    refine lv_tableIn (off := 25) (tgt := 48) hx hb dX7_tells_23 (by rw [c_23_0]; decide) (by rw [c_23_0]; decide) (by rw [c_23_0]; rfl) (by decide) ?_
    refine lv_iload_n hx hb dX7_tells_48 rfl (lv_at hl 4 rfl) ?_
    refine lv_iconst (v := 3) hx hb dX7_tells_49 (by decide) ?_
    have J50 : ∀ (H : Heap) (locs : List Loc) (ls : Array Slot), va_P D vwCl (wM cI cZ u w told read isK undoes text texted seen seS seB seP at_ start clauses number word) H → va_D A (wM cI cZ u w told read isK undoes text texted seen seS seB seP at_ start clauses number word) → va_S A s.heap H locs → lv_has ls 5 [(0, .ref (u 0)), (1, .int person), (2, .int strip), (3, .int beard), (4, .int (((told ((9 + person).toNatClampNeg)) >>> (strip &&& 31)) &&& 1))] → W p l e rm_X7_tells s m args below meth c H locs 0 0 Q (F0 m 59 ls [.int (v_X7_tells_50_0 told person strip beard)]) := by
      intro H locs ls hP hD hS hl
      have hf : (f_X7_tells told person strip beard) = (v_X7_tells_50_0 told person strip beard) := (if_pos c_23_0)
      rw [hf] at hret
      exact hret _ _ _ _ hP hS dX7_tells_59
    refine lv_icmp_ge (tgt := 57) hx hb dX7_tells_50 (by decide) (fun c_50 => ?_) (fun c_50 => ?_)
    · skip
      refine lv_iload hx hb dX7_tells_57 (lv_at hl 0 rfl) ?_
      rw [show (v_X7_tells_50_0 told person strip beard) = (((told ((9 + person).toNatClampNeg)) >>> (strip &&& 31)) &&& 1) from (if_pos c_50)] at J50
      exact J50 _ _ _ hP hD hS (lv_sub hl [1, 2, 3, 4, 0] rfl)
    · skip
      refine lv_iconst (v := (-1)) hx hb dX7_tells_53 (by decide) ?_
      refine lv_goto (tgt := 59) hx hb dX7_tells_54 (by decide) ?_
      rw [show (v_X7_tells_50_0 told person strip beard) = (-1) from (if_neg c_50)] at J50
      exact J50 _ _ _ hP hD hS (lv_sub hl [1, 2, 3, 4, 0] rfl)
  · skip
    by_cases c_23_1 : (told ((3 + person).toNatClampNeg)) = 2
    · skip
      refine lv_tableIn (off := 37) (tgt := 60) hx hb dX7_tells_23 (by rw [c_23_1]; decide) (by rw [c_23_1]; decide) (by rw [c_23_1]; rfl) (by decide) ?_
      refine lv_iload_n hx hb dX7_tells_60 rfl (lv_at hl 3 rfl) ?_
      refine lv_iconst (v := 2) hx hb dX7_tells_61 (by decide) ?_
      have J62 : ∀ (H : Heap) (locs : List Loc) (ls : Array Slot), va_P D vwCl (wM cI cZ u w told read isK undoes text texted seen seS seB seP at_ start clauses number word) H → va_D A (wM cI cZ u w told read isK undoes text texted seen seS seB seP at_ start clauses number word) → va_S A s.heap H locs → lv_has ls 5 [(0, .ref (u 0)), (1, .int person), (2, .int strip), (3, .int beard), (4, .int (((told ((9 + person).toNatClampNeg)) >>> (strip &&& 31)) &&& 1))] → W p l e rm_X7_tells s m args below meth c H locs 0 0 Q (F0 m 71 ls [.int (v_X7_tells_62_0 told person strip)]) := by
        intro H locs ls hP hD hS hl
        have hf : (f_X7_tells told person strip beard) = (v_X7_tells_62_0 told person strip) := ((if_neg c_23_0).trans (if_pos c_23_1))
        rw [hf] at hret
        exact hret _ _ _ _ hP hS dX7_tells_71
      refine lv_icmp_ne (tgt := 69) hx hb dX7_tells_62 (by decide) (fun c_62 => ?_) (fun c_62 => ?_)
      · skip
        refine lv_iload hx hb dX7_tells_69 (lv_at hl 0 rfl) ?_
        rw [show (v_X7_tells_62_0 told person strip) = (((told ((9 + person).toNatClampNeg)) >>> (strip &&& 31)) &&& 1) from (if_neg c_62)] at J62
        exact J62 _ _ _ hP hD hS (lv_sub hl [1, 2, 3, 4, 0] rfl)
      · skip
        refine lv_iconst (v := (-1)) hx hb dX7_tells_65 (by decide) ?_
        refine lv_goto (tgt := 71) hx hb dX7_tells_66 (by decide) ?_
        rw [show (v_X7_tells_62_0 told person strip) = (-1) from (if_pos c_62)] at J62
        exact J62 _ _ _ hP hD hS (lv_sub hl [1, 2, 3, 4, 0] rfl)
    · skip
      by_cases c_23_2 : (told ((3 + person).toNatClampNeg)) = 3
      · skip
        refine lv_tableIn (off := 49) (tgt := 72) hx hb dX7_tells_23 (by rw [c_23_2]; decide) (by rw [c_23_2]; decide) (by rw [c_23_2]; rfl) (by decide) ?_
        refine lv_iload_n hx hb dX7_tells_72 rfl (lv_at hl 4 rfl) ?_
        refine lv_iconst (v := 5) hx hb dX7_tells_73 (by decide) ?_
        have J74 : ∀ (H : Heap) (locs : List Loc) (ls : Array Slot), va_P D vwCl (wM cI cZ u w told read isK undoes text texted seen seS seB seP at_ start clauses number word) H → va_D A (wM cI cZ u w told read isK undoes text texted seen seS seB seP at_ start clauses number word) → va_S A s.heap H locs → lv_has ls 5 [(0, .ref (u 0)), (1, .int person), (2, .int strip), (3, .int beard), (4, .int (((told ((9 + person).toNatClampNeg)) >>> (strip &&& 31)) &&& 1))] → W p l e rm_X7_tells s m args below meth c H locs 0 0 Q (F0 m 86 ls [.int (v_X7_tells_74_0 told person strip beard)]) := by
          intro H locs ls hP hD hS hl
          have hf : (f_X7_tells told person strip beard) = (v_X7_tells_74_0 told person strip beard) := ((if_neg c_23_0).trans ((if_neg c_23_1).trans (if_pos c_23_2)))
          rw [hf] at hret
          exact hret _ _ _ _ hP hS dX7_tells_86
        refine lv_icmp_ge (tgt := 82) hx hb dX7_tells_74 (by decide) (fun c_74 => ?_) (fun c_74 => ?_)
        · skip
          refine lv_iconst (v := 1) hx hb dX7_tells_82 (by decide) ?_
          refine lv_iload hx hb dX7_tells_83 (lv_at hl 0 rfl) ?_
          refine lv_isub hx hb dX7_tells_85 ?_
          rw [show (v_X7_tells_74_0 told person strip beard) = (1 - (((told ((9 + person).toNatClampNeg)) >>> (strip &&& 31)) &&& 1)) from (if_pos c_74)] at J74
          exact J74 _ _ _ hP hD hS (lv_sub hl [1, 2, 3, 4, 0] rfl)
        · skip
          refine lv_iload hx hb dX7_tells_77 (lv_at hl 0 rfl) ?_
          refine lv_goto (tgt := 86) hx hb dX7_tells_79 (by decide) ?_
          rw [show (v_X7_tells_74_0 told person strip beard) = (((told ((9 + person).toNatClampNeg)) >>> (strip &&& 31)) &&& 1) from (if_neg c_74)] at J74
          exact J74 _ _ _ hP hD hS (lv_sub hl [1, 2, 3, 4, 0] rfl)
      · skip
        have htab : (told ((3 + person).toNatClampNeg)).toInt < 1 ∨ 3 < (told ((3 + person).toNatClampNeg)).toInt := by
          have a0 : (told ((3 + person).toNatClampNeg)).toInt ≠ 1 := kneI c_23_0
          have a1 : (told ((3 + person).toNatClampNeg)).toInt ≠ 2 := kneI c_23_1
          have a2 : (told ((3 + person).toNatClampNeg)).toInt ≠ 3 := kneI c_23_2
          omega
        refine lv_tableOut (tgt := 87) hx hb dX7_tells_23 htab (by decide) ?_
        refine lv_iload hx hb dX7_tells_87 (lv_at hl 0 rfl) ?_
        have hf : (f_X7_tells told person strip beard) = (((told ((9 + person).toNatClampNeg)) >>> (strip &&& 31)) &&& 1) := ((if_neg c_23_0).trans ((if_neg c_23_1).trans (if_neg c_23_2)))
        rw [hf] at hret
        exact hret _ _ _ _ hP hS dX7_tells_89
