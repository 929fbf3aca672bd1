def v_X1_canStand_60_0 (sru : Int32) : Int32 := if 8 ≤ sru then 0 else 1
def v_X1_canStand_75_0 (spe : Int32) : Int32 := if 6 ≤ spe then 0 else 1
def f_X1_canStand (spe : Int32) (sru : Int32) (word : Int32) : Int32 := if word = (-1) then 0 else (if word = 4 then 1 else (if word = 5 then (v_X1_canStand_60_0 sru) else (if word = 6 then 1 else (v_X1_canStand_75_0 spe))))
abbrev rm_X1_canStand : Room := { frames := 0, cells := 0, slots := 0, locals := 0 }
theorem b01_X1_canStand (spe : Int32) (sru : Int32) (word : Int32) : (f_X1_canStand spe sru word) = 0 ∨ (f_X1_canStand spe sru word) = 1 := by
  simp only [v_X1_canStand_60_0, v_X1_canStand_75_0, f_X1_canStand]
  (repeat' split) <;> first | exact Or.inl rfl | exact Or.inr rfl
set_option maxRecDepth 100000 in
set_option maxHeartbeats 4000000 in
theorem k_X1_canStand (l : Launch) (D : va_G) (cI cZ : ClassId) (adK adV : Nat → Nat) (q : Nat → Nat) (len : Int32) (ncl : Int32) (spe : Int32) (sru : Int32) (sbe : Int32) (sen : Int32) (lets : Nat → Int32) (wrds : Nat → Int32) (nums : Nat → Int32) (word : Int32) : CI l D (kTy cI cZ) (kG adK adV) yX1_canStand (.code yX1_canStand cX1_canStand 2 (some .boolean) :: wsL_law) rm_X1_canStand [.ref (q 1), .int word] (wScr cI q len ncl spe sru sbe sen lets wrds nums) (wScr cI q len ncl spe sru sbe sen lets wrds nums) (f_X1_canStand spe sru word) := by
  refine CI.of (cc := cX1_canStand) (maxL := 2) (ty := .boolean) (by decide) rfl (Nat.le_of_ble_eq_true rfl) (knb (b01_X1_canStand spe sru word)) ?_
  intro p e s m args below meth c A Q ls hx hb hml hts0 hown hA hP hK hD hE hl hret
  have hts : ∀ w ∈ wsL_law, w.before args s = true := fun w h => hts0 w (List.mem_cons_of_mem _ h)
  clear hts0
  have hown : s.vm.findClass RX1 = some m.cls := hown
  have hl : lv_has ls 2 [(0, .ref (q 1)), (1, .int word)] := hl
  have hS : va_S A s.heap s.heap [] := va_S.rf
  revert hP hS
  suffices hgo : ∀ (H : Heap) (locs : List Loc), va_P D vwCl (wScr cI q len ncl spe sru sbe sen lets wrds nums) H → va_S A s.heap H locs → W p l e rm_X1_canStand s m args below meth c H locs 0 0 Q (F0 m 0 ls []) from fun a b => hgo _ _ a b
  intro H locs hP hS
  refine lv_iload_n hx hb dX1_canStand_0 rfl (lv_at hl 1 rfl) ?_
  by_cases c_1_0 : word = (-1)
  · skip
    refine lv_tableIn (off := 47) (tgt := 48) hx hb dX1_canStand_1 (by rw [c_1_0]; decide) (by rw [c_1_0]; decide) (by rw [c_1_0]; rfl) (by decide) ?_
    refine lv_iconst (v := 0) hx hb dX1_canStand_48 (by decide) ?_
    have hf : (f_X1_canStand spe sru word) = 0 := (if_pos c_1_0)
    rw [hf] at hret
    exact hret _ _ _ _ hP hS dX1_canStand_49
  · skip
    by_cases c_1_5 : word = 4
    · skip
      refine lv_tableIn (off := 49) (tgt := 50) hx hb dX1_canStand_1 (by rw [c_1_5]; decide) (by rw [c_1_5]; decide) (by rw [c_1_5]; rfl) (by decide) ?_
      refine lv_iconst (v := 1) hx hb dX1_canStand_50 (by decide) ?_
      have hf : (f_X1_canStand spe sru word) = 1 := ((if_neg c_1_0).trans (if_pos c_1_5))
      rw [hf] at hret
      exact hret _ _ _ _ hP hS dX1_canStand_51
    · skip
      by_cases c_1_6 : word = 5
      · skip
        refine lv_tableIn (off := 53) (tgt := 54) hx hb dX1_canStand_1 (by rw [c_1_6]; decide) (by rw [c_1_6]; decide) (by rw [c_1_6]; rfl) (by decide) ?_
        refine lv_aload_n hx hb dX1_canStand_54 rfl (lv_at hl 0 rfl) ?_
        refine va_get (D := D) (ci := 1) (v := .int sru) (C := RX1) (T := TX1) (N := 9) hx hb hts inlX1 hown hK hP 0 rfl rfl 6 (by decide) (kw hts kin_7 8 rfl) (fun _ h9 => h9) rfl dX1_canStand_55 ?_
        refine lv_bipush (v := 8) hx hb dX1_canStand_58 (by decide) ?_
        have J60 : ∀ (H : Heap) (locs : List Loc) (ls : Array Slot), va_P D vwCl (wScr cI q len ncl spe sru sbe sen lets wrds nums) H → va_D A (wScr cI q len ncl spe sru sbe sen lets wrds nums) → va_S A s.heap H locs → lv_has ls 2 [(0, .ref (q 1)), (1, .int word)] → W p l e rm_X1_canStand s m args below meth c H locs 0 0 Q (F0 m 68 ls [.int (v_X1_canStand_60_0 sru)]) := by
          intro H locs ls hP hD hS hl
          have hf : (f_X1_canStand spe sru word) = (v_X1_canStand_60_0 sru) := ((if_neg c_1_0).trans ((if_neg c_1_5).trans (if_pos c_1_6)))
          rw [hf] at hret
          exact hret _ _ _ _ hP hS dX1_canStand_68
        refine lv_icmp_ge (tgt := 67) hx hb dX1_canStand_60 (by decide) (fun c_60 => ?_) (fun c_60 => ?_)
        · skip
          refine lv_iconst (v := 0) hx hb dX1_canStand_67 (by decide) ?_
          rw [show (v_X1_canStand_60_0 sru) = 0 from (if_pos c_60)] at J60
          exact J60 _ _ _ hP hD hS (lv_sub hl [0, 1] rfl)
        · skip
          refine lv_iconst (v := 1) hx hb dX1_canStand_63 (by decide) ?_
          refine lv_goto (tgt := 68) hx hb dX1_canStand_64 (by decide) ?_
          rw [show (v_X1_canStand_60_0 sru) = 1 from (if_neg c_60)] at J60
          exact J60 _ _ _ hP hD hS (lv_sub hl [0, 1] rfl)
      · skip
        by_cases c_1_7 : word = 6
        · skip
          refine lv_tableIn (off := 51) (tgt := 52) hx hb dX1_canStand_1 (by rw [c_1_7]; decide) (by rw [c_1_7]; decide) (by rw [c_1_7]; rfl) (by decide) ?_
          refine lv_iconst (v := 1) hx hb dX1_canStand_52 (by decide) ?_
          have hf : (f_X1_canStand spe sru word) = 1 := ((if_neg c_1_0).trans ((if_neg c_1_5).trans ((if_neg c_1_6).trans (if_pos c_1_7))))
          rw [hf] at hret
          exact hret _ _ _ _ hP hS dX1_canStand_53
        · skip
          have KD1 : W p l e rm_X1_canStand s m args below meth c H locs 0 0 Q (F0 m 69 ls []) := by
            refine lv_aload_n hx hb dX1_canStand_69 rfl (lv_at hl 0 rfl) ?_
            refine va_get (D := D) (ci := 1) (v := .int spe) (C := RX1) (T := TX1) (N := 9) hx hb hts inlX1 hown hK hP 0 rfl rfl 5 (by decide) (kw hts kin_7 7 rfl) (fun _ h9 => h9) rfl dX1_canStand_70 ?_
            refine lv_bipush (v := 6) hx hb dX1_canStand_73 (by decide) ?_
            have J75 : ∀ (H : Heap) (locs : List Loc) (ls : Array Slot), va_P D vwCl (wScr cI q len ncl spe sru sbe sen lets wrds nums) H → va_D A (wScr cI q len ncl spe sru sbe sen lets wrds nums) → va_S A s.heap H locs → lv_has ls 2 [(0, .ref (q 1)), (1, .int word)] → W p l e rm_X1_canStand s m args below meth c H locs 0 0 Q (F0 m 83 ls [.int (v_X1_canStand_75_0 spe)]) := by
              intro H locs ls hP hD hS hl
              have hf : (f_X1_canStand spe sru word) = (v_X1_canStand_75_0 spe) := ((if_neg c_1_0).trans ((if_neg c_1_5).trans ((if_neg c_1_6).trans (if_neg c_1_7))))
              rw [hf] at hret
              exact hret _ _ _ _ hP hS dX1_canStand_83
            refine lv_icmp_ge (tgt := 82) hx hb dX1_canStand_75 (by decide) (fun c_75 => ?_) (fun c_75 => ?_)
            · skip
              refine lv_iconst (v := 0) hx hb dX1_canStand_82 (by decide) ?_
              rw [show (v_X1_canStand_75_0 spe) = 0 from (if_pos c_75)] at J75
              exact J75 _ _ _ hP hD hS (lv_sub hl [0, 1] rfl)
            · skip
              refine lv_iconst (v := 1) hx hb dX1_canStand_78 (by decide) ?_
              refine lv_goto (tgt := 83) hx hb dX1_canStand_79 (by decide) ?_
              rw [show (v_X1_canStand_75_0 spe) = 1 from (if_neg c_75)] at J75
              exact J75 _ _ _ hP hD hS (lv_sub hl [0, 1] rfl)
          by_cases c_1_1 : word = 0
          · exact lv_tableIn (off := 68) (tgt := 69) hx hb dX1_canStand_1 (by rw [c_1_1]; decide) (by rw [c_1_1]; decide) (by rw [c_1_1]; rfl) (by decide) KD1
          by_cases c_1_2 : word = 1
          · exact lv_tableIn (off := 68) (tgt := 69) hx hb dX1_canStand_1 (by rw [c_1_2]; decide) (by rw [c_1_2]; decide) (by rw [c_1_2]; rfl) (by decide) KD1
          by_cases c_1_3 : word = 2
          · exact lv_tableIn (off := 68) (tgt := 69) hx hb dX1_canStand_1 (by rw [c_1_3]; decide) (by rw [c_1_3]; decide) (by rw [c_1_3]; rfl) (by decide) KD1
          by_cases c_1_4 : word = 3
          · exact lv_tableIn (off := 68) (tgt := 69) hx hb dX1_canStand_1 (by rw [c_1_4]; decide) (by rw [c_1_4]; decide) (by rw [c_1_4]; rfl) (by decide) KD1
          have htab : word.toInt < -1 ∨ 6 < word.toInt := by
            have a0 : word.toInt ≠ -1 := kneI c_1_0
            have a1 : word.toInt ≠ 0 := kneI c_1_1
            have a2 : word.toInt ≠ 1 := kneI c_1_2
            have a3 : word.toInt ≠ 2 := kneI c_1_3
            have a4 : word.toInt ≠ 3 := kneI c_1_4
            have a5 : word.toInt ≠ 4 := kneI c_1_5
            have a6 : word.toInt ≠ 5 := kneI c_1_6
            have a7 : word.toInt ≠ 6 := kneI c_1_7
            omega
          exact lv_tableOut (tgt := 69) hx hb dX1_canStand_1 htab (by decide) KD1
