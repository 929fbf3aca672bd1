def v_X7_letterAt_5_0 (text : Nat → Int32) (texted : Int32) (k : Int32) : Int32 := if texted ≤ k then (-1) else (text k.toNatClampNeg)
def f_X7_letterAt (text : Nat → Int32) (texted : Int32) (k : Int32) : Int32 := (v_X7_letterAt_5_0 text texted k)
abbrev rm_X7_letterAt : Room := { frames := 0, cells := 0, slots := 0, locals := 0 }
set_option maxRecDepth 100000 in
set_option maxHeartbeats 4000000 in
theorem k_X7_letterAt (l : Launch) (D : va_G) (cI cZ : ClassId) (u : Nat → Nat) (w : Nat → Int32) (told : Nat → Int32) (read : Nat → Int32) (isK : Nat → Int32) (undoes : Int32) (text : Nat → Int32) (texted : Int32) (seen : Int32) (seS : Nat → Int32) (seB : Nat → Int32) (seP : Nat → Int32) (at_ : Int32) (start : Int32) (clauses : Int32) (number : Int32) (word : Int64) (k : Int32) (h_k : kb k 0 161) (hX : kb texted 0 161) : CI l D (kTy cI cZ) kT yX7_letterAt (.code yX7_letterAt cX7_letterAt 2 (some .int) :: wsL_law) rm_X7_letterAt [.ref (u 0), .int k] (wM cI cZ u w told read isK undoes text texted seen seS seB seP at_ start clauses number word) (wM cI cZ u w told read isK undoes text texted seen seS seB seP at_ start clauses number word) (f_X7_letterAt text texted k) := by
  refine CI.of (cc := cX7_letterAt) (maxL := 2) (ty := .int) (by decide) rfl (Nat.le_of_ble_eq_true rfl) rfl ?_
  intro p e s m args below meth c A Q ls hx hb hml hts0 hown hA hP hK hD hE hl hret
  have hts : ∀ w ∈ wsL_law, w.before args s = true := fun w h => hts0 w (List.mem_cons_of_mem _ h)
  clear hts0
  have hown : s.vm.findClass RX7 = some m.cls := hown
  have hl : lv_has ls 2 [(0, .ref (u 0)), (1, .int k)] := hl
  have hS : va_S A s.heap s.heap [] := va_S.rf
  revert hP hS
  suffices hgo : ∀ (H : Heap) (locs : List Loc), va_P D vwCl (wM cI cZ u w told read isK undoes text texted seen seS seB seP at_ start clauses number word) H → va_S A s.heap H locs → W p l e rm_X7_letterAt s m args below meth c H locs 0 0 Q (F0 m 0 ls []) from fun a b => hgo _ _ a b
  intro H locs hP hS
  refine lv_iload_n hx hb dX7_letterAt_0 rfl (lv_at hl 1 rfl) ?_
  refine lv_aload_n hx hb dX7_letterAt_1 rfl (lv_at hl 0 rfl) ?_
  refine va_get (D := D) (ci := 7) (v := .int texted) (C := RX7) (T := TX7) (N := 16) hx hb hts inlX7 hown hK hP 0 rfl rfl 6 (by decide) (kw hts kin_6 5 rfl) (fun _ h9 => h9) rfl dX7_letterAt_2 ?_
  have J5 : ∀ (H : Heap) (locs : List Loc) (ls : Array Slot), va_P D vwCl (wM cI cZ u w told read isK undoes text texted seen seS seB seP at_ start clauses number word) H → va_D A (wM cI cZ u w told read isK undoes text texted seen seS seB seP at_ start clauses number word) → va_S A s.heap H locs → lv_has ls 2 [(0, .ref (u 0)), (1, .int k)] → W p l e rm_X7_letterAt s m args below meth c H locs 0 0 Q (F0 m 18 ls [.int (v_X7_letterAt_5_0 text texted k)]) := by
    intro H locs ls hP hD hS hl
    have hf : (f_X7_letterAt text texted k) = (v_X7_letterAt_5_0 text texted k) := rfl
    rw [hf] at hret
    exact hret _ _ _ _ hP hS dX7_letterAt_18
  refine lv_icmp_ge (tgt := 17) hx hb dX7_letterAt_5 (by decide) (fun c_5 => ?_) (fun c_5 => ?_)
  · skip
    refine lv_iconst (v := (-1)) hx hb dX7_letterAt_17 (by decide) ?_
    rw [show (v_X7_letterAt_5_0 text texted k) = (-1) from (if_pos c_5)] at J5
    exact J5 _ _ _ hP hD hS (lv_sub hl [0, 1] rfl)
  · skip
    refine lv_aload_n hx hb dX7_letterAt_8 rfl (lv_at hl 0 rfl) ?_
    refine va_get (D := D) (ci := 7) (v := .ref (u 5)) (C := RX7) (T := TX7) (N := 16) hx hb hts inlX7 hown hK hP 0 rfl rfl 5 (by decide) (kw hts kin_5 3 rfl) (fun _ h9 => h9) rfl dX7_letterAt_9 ?_
    refine lv_iload_n hx hb dX7_letterAt_12 rfl (lv_at hl 1 rfl) ?_
    refine va_iald (cA := cI) (n := 160) (f := text) hx hb hK hP 5 0 rfl rfl (klt_in h_k hX c_5) dX7_letterAt_13 ?_
    refine lv_goto (tgt := 18) hx hb dX7_letterAt_14 (by decide) ?_
    rw [show (v_X7_letterAt_5_0 text texted k) = (text k.toNatClampNeg) from (if_neg c_5)] at J5
    exact J5 _ _ _ hP hD hS (lv_sub hl [0, 1] rfl)
