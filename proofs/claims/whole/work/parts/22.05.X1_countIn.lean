def v_X1_countIn_1_0 (spe : Int32) (word : Int32) : Int32 := if word = 4 then 0 else (if word = 5 then spe else (if word = 6 then spe else (spe + 1)))
def v_X1_countIn_1_1 (sru : Int32) (word : Int32) : Int32 := if word = 4 then 0 else (if word = 5 then (sru + 1) else (if word = 6 then sru else sru))
def f_X1_countIn (spe : Int32) (sru : Int32) (word : Int32) : Int32 × Int32 := ((v_X1_countIn_1_0 spe word), (v_X1_countIn_1_1 sru word))
abbrev rm_X1_countIn : Room := { frames := 0, cells := 0, slots := 0, locals := 0 }
set_option maxRecDepth 100000 in
set_option maxHeartbeats 4000000 in
theorem k_X1_countIn (l : Launch) (D : va_G) (cI cZ : ClassId) (adK adV : Nat → Nat) (q : Nat → Nat) (len : Int32) (ncl : Int32) (spe : Int32) (sru : Int32) (sbe : Int32) (sen : Int32) (lets : Nat → Int32) (wrds : Nat → Int32) (nums : Nat → Int32) (word : Int32) : CV l D (kTy cI cZ) (kG adK adV) yX1_countIn (.code yX1_countIn cX1_countIn 2 none :: wsL_law) rm_X1_countIn [.ref (q 1), .int word] (wScr cI q len ncl spe sru sbe sen lets wrds nums) (wScr cI q len ncl ((f_X1_countIn spe sru word).1) ((f_X1_countIn spe sru word).2) sbe sen lets wrds nums) := by
  refine CV.of (cc := cX1_countIn) (maxL := 2) (by decide) rfl (Nat.le_of_ble_eq_true rfl) ?_
  intro p e s m args below meth c A Q ls hx hb hml hts0 hown hA hP hK hD hE hl hret
  have hts : ∀ w ∈ wsL_law, w.before args s = true := fun w h => hts0 w (List.mem_cons_of_mem _ h)
  clear hts0
  have hown : s.vm.findClass RX1 = some m.cls := hown
  have hl : lv_has ls 2 [(0, .ref (q 1)), (1, .int word)] := hl
  have hS : va_S A s.heap s.heap [] := va_S.rf
  revert hP hS
  suffices hgo : ∀ (H : Heap) (locs : List Loc), va_P D vwCl (wScr cI q len ncl spe sru sbe sen lets wrds nums) H → va_S A s.heap H locs → W p l e rm_X1_countIn s m args below meth c H locs 0 0 Q (F0 m 0 ls []) from fun a b => hgo _ _ a b
  intro H locs hP hS
  refine lv_iload_n hx hb dX1_countIn_0 rfl (lv_at hl 1 rfl) ?_
  have J1 : ∀ (H : Heap) (locs : List Loc) (ls : Array Slot), va_P D vwCl (wScr cI q len ncl (v_X1_countIn_1_0 spe word) (v_X1_countIn_1_1 sru word) sbe sen lets wrds nums) H → va_D A (wScr cI q len ncl (v_X1_countIn_1_0 spe word) (v_X1_countIn_1_1 sru word) sbe sen lets wrds nums) → va_S A s.heap H locs → lv_has ls 2 [(0, .ref (q 1)), (1, .int word)] → W p l e rm_X1_countIn s m args below meth c H locs 0 0 Q (F0 m 67 ls []) := by
    intro H locs ls hP hD hS hl
    have hf : (f_X1_countIn spe sru word) = ((v_X1_countIn_1_0 spe word), (v_X1_countIn_1_1 sru word)) := rfl
    rw [hf] at hret
    dsimp only at hret
    exact hret _ _ _ _ hP hS dX1_countIn_67
  by_cases c_1_0 : word = 4
  · skip
    refine lv_tableIn (off := 27) (tgt := 28) hx hb dX1_countIn_1 (by rw [c_1_0]; decide) (by rw [c_1_0]; decide) (by rw [c_1_0]; rfl) (by decide) ?_
    refine lv_aload_n hx hb dX1_countIn_28 rfl (lv_at hl 0 rfl) ?_
    refine lv_iconst (v := 0) hx hb dX1_countIn_29 (by decide) ?_
    refine va_put (D := D) (ci := 1) (v := .int 0) (ty := .int) (C := RX1) (T := TX1) (N := 9) hx hb hts inlX1 tyX1 tyX1_ok nmX1 hown hK hP hD hS 0 rfl rfl 5 (by decide) (kw hts kin_7 7 rfl) (fun _ h9 => h9) rfl (by decide +kernel) rfl rfl (Nat.le_of_ble_eq_true rfl) dX1_countIn_30 (fun H locs hP hD hS => ?_)
    have hP : va_P D vwCl (wScr cI q len ncl 0 sru sbe sen lets wrds nums) H := hP
    have hD : va_D A (wScr cI q len ncl 0 sru sbe sen lets wrds nums) := hD
    refine lv_aload_n hx hb dX1_countIn_33 rfl (lv_at hl 0 rfl) ?_
    refine lv_iconst (v := 0) hx hb dX1_countIn_34 (by decide) ?_
    refine va_put (D := D) (ci := 1) (v := .int 0) (ty := .int) (C := RX1) (T := TX1) (N := 9) hx hb hts inlX1 tyX1 tyX1_ok nmX1 hown hK hP hD hS 0 rfl rfl 6 (by decide) (kw hts kin_7 8 rfl) (fun _ h9 => h9) rfl (by decide +kernel) rfl rfl (Nat.le_of_ble_eq_true rfl) dX1_countIn_35 (fun H locs hP hD hS => ?_)
    have hP : va_P D vwCl (wScr cI q len ncl 0 0 sbe sen lets wrds nums) H := hP
    have hD : va_D A (wScr cI q len ncl 0 0 sbe sen lets wrds nums) := hD
    refine lv_goto (tgt := 67) hx hb dX1_countIn_38 (by decide) ?_
    rw [show (v_X1_countIn_1_0 spe word) = 0 from (if_pos c_1_0)] at J1
    rw [show (v_X1_countIn_1_1 sru word) = 0 from (if_pos c_1_0)] at J1
    exact J1 _ _ _ hP hD hS (lv_sub hl [0, 1] rfl)
  · skip
    by_cases c_1_1 : word = 5
    · skip
      refine lv_tableIn (off := 43) (tgt := 44) hx hb dX1_countIn_1 (by rw [c_1_1]; decide) (by rw [c_1_1]; decide) (by rw [c_1_1]; rfl) (by decide) ?_
      refine lv_aload_n hx hb dX1_countIn_44 rfl (lv_at hl 0 rfl) ?_
      refine lv_dup hx hb dX1_countIn_45 rfl ?_
      refine va_get (D := D) (ci := 1) (v := .int sru) (C := RX1) (T := TX1) (N := 9) hx hb hts inlX1 hown hK hP 0 rfl rfl 6 (by decide) (kw hts kin_7 8 rfl) (fun _ h9 => h9) rfl dX1_countIn_46 ?_
      refine lv_iconst (v := 1) hx hb dX1_countIn_49 (by decide) ?_
      refine lv_iadd hx hb dX1_countIn_50 ?_
      refine va_put (D := D) (ci := 1) (v := .int (sru + 1)) (ty := .int) (C := RX1) (T := TX1) (N := 9) hx hb hts inlX1 tyX1 tyX1_ok nmX1 hown hK hP hD hS 0 rfl rfl 6 (by decide) (kw hts kin_7 8 rfl) (fun _ h9 => h9) rfl (by decide +kernel) rfl rfl (Nat.le_of_ble_eq_true rfl) dX1_countIn_51 (fun H locs hP hD hS => ?_)
      have hP : va_P D vwCl (wScr cI q len ncl spe (sru + 1) sbe sen lets wrds nums) H := hP
      have hD : va_D A (wScr cI q len ncl spe (sru + 1) sbe sen lets wrds nums) := hD
      refine lv_goto (tgt := 67) hx hb dX1_countIn_54 (by decide) ?_
      rw [show (v_X1_countIn_1_0 spe word) = spe from ((if_neg c_1_0).trans (if_pos c_1_1))] at J1
      rw [show (v_X1_countIn_1_1 sru word) = (sru + 1) from ((if_neg c_1_0).trans (if_pos c_1_1))] at J1
      exact J1 _ _ _ hP hD hS (lv_sub hl [0, 1] rfl)
    · skip
      by_cases c_1_2 : word = 6
      · skip
        refine lv_tableIn (off := 40) (tgt := 41) hx hb dX1_countIn_1 (by rw [c_1_2]; decide) (by rw [c_1_2]; decide) (by rw [c_1_2]; rfl) (by decide) ?_
        refine lv_goto (tgt := 67) hx hb dX1_countIn_41 (by decide) ?_
        rw [show (v_X1_countIn_1_0 spe word) = spe from ((if_neg c_1_0).trans ((if_neg c_1_1).trans (if_pos c_1_2)))] at J1
        rw [show (v_X1_countIn_1_1 sru word) = sru from ((if_neg c_1_0).trans ((if_neg c_1_1).trans (if_pos c_1_2)))] at J1
        exact J1 _ _ _ hP hD hS (lv_sub hl [0, 1] rfl)
      · skip
        have htab : word.toInt < 4 ∨ 6 < word.toInt := by
          have a0 : word.toInt ≠ 4 := kneI c_1_0
          have a1 : word.toInt ≠ 5 := kneI c_1_1
          have a2 : word.toInt ≠ 6 := kneI c_1_2
          omega
        refine lv_tableOut (tgt := 57) hx hb dX1_countIn_1 htab (by decide) ?_
        refine lv_aload_n hx hb dX1_countIn_57 rfl (lv_at hl 0 rfl) ?_
        refine lv_dup hx hb dX1_countIn_58 rfl ?_
        refine va_get (D := D) (ci := 1) (v := .int spe) (C := RX1) (T := TX1) (N := 9) hx hb hts inlX1 hown hK hP 0 rfl rfl 5 (by decide) (kw hts kin_7 7 rfl) (fun _ h9 => h9) rfl dX1_countIn_59 ?_
        refine lv_iconst (v := 1) hx hb dX1_countIn_62 (by decide) ?_
        refine lv_iadd hx hb dX1_countIn_63 ?_
        refine va_put (D := D) (ci := 1) (v := .int (spe + 1)) (ty := .int) (C := RX1) (T := TX1) (N := 9) hx hb hts inlX1 tyX1 tyX1_ok nmX1 hown hK hP hD hS 0 rfl rfl 5 (by decide) (kw hts kin_7 7 rfl) (fun _ h9 => h9) rfl (by decide +kernel) rfl rfl (Nat.le_of_ble_eq_true rfl) dX1_countIn_64 (fun H locs hP hD hS => ?_)
        have hP : va_P D vwCl (wScr cI q len ncl (spe + 1) sru sbe sen lets wrds nums) H := hP
        have hD : va_D A (wScr cI q len ncl (spe + 1) sru sbe sen lets wrds nums) := hD
        rw [show (v_X1_countIn_1_0 spe word) = (spe + 1) from ((if_neg c_1_0).trans ((if_neg c_1_1).trans (if_neg c_1_2)))] at J1
        rw [show (v_X1_countIn_1_1 sru word) = sru from ((if_neg c_1_0).trans ((if_neg c_1_1).trans (if_neg c_1_2)))] at J1
        exact J1 _ _ _ hP hD hS (lv_sub hl [0, 1] rfl)
