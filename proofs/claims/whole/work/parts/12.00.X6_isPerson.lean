def v_X6_isPerson_1_0 (tp : Int32) (person : Int32) : Int32 := if person < 0 then 0 else (if tp ≤ person then 0 else 1)
def f_X6_isPerson (tp : Int32) (person : Int32) : Int32 := (v_X6_isPerson_1_0 tp person)
abbrev rm_X6_isPerson : Room := { frames := 0, cells := 0, slots := 0, locals := 0 }
set_option maxRecDepth 100000 in
set_option maxHeartbeats 4000000 in
theorem k_X6_isPerson (l : Launch) (D : va_G) (cI cZ : ClassId) (adK adV : Nat → Nat) (q : Nat → Nat) (lat : Int32) (und : Int32) (kpl : Int32) (len : Int32) (ncl : Int32) (spe : Int32) (sru : Int32) (sbe : Int32) (sen : Int32) (lets : Nat → Int32) (wrds : Nat → Int32) (nums : Nat → Int32) (tb : Int32) (tp : Int32) (tr : Int32) (knd : Nat → Int32) (sec : Nat → Int32) (brd : Nat → Int32) (rms : Nat → Int32) (std : Nat → Int32) (sn : Int32) (ss : Nat → Int32) (sb : Nat → Int32) (sp : Nat → Int32) (past : Nat → Int32) (kept : Nat → Int32) (person : Int32) : CI l D (kTy cI cZ) (kG adK adV) yX6_isPerson (.code yX6_isPerson cX6_isPerson 2 (some .boolean) :: wsL_law) rm_X6_isPerson [.ref (q 0), .int person] (wC cI q lat und kpl len ncl spe sru sbe sen lets wrds nums tb tp tr knd sec brd rms std sn ss sb sp past kept) (wC cI q lat und kpl len ncl spe sru sbe sen lets wrds nums tb tp tr knd sec brd rms std sn ss sb sp past kept) (f_X6_isPerson tp person) := by
  refine CI.of (cc := cX6_isPerson) (maxL := 2) (ty := .boolean) (by decide) rfl (Nat.le_of_ble_eq_true rfl) (by simp only [v_X6_isPerson_1_0, f_X6_isPerson]; (repeat' split) <;> rfl) ?_
  intro p e s m args below meth c A Q ls hx hb hml hts0 hown hA hP hK hD hE hl hret
  have hts : ∀ w ∈ wsL_law, w.before args s = true := fun w h => hts0 w (List.mem_cons_of_mem _ h)
  clear hts0
  have hown : s.vm.findClass RX6 = some m.cls := hown
  have hl : lv_has ls 2 [(0, .ref (q 0)), (1, .int person)] := hl
  have hS : va_S A s.heap s.heap [] := va_S.rf
  revert hP hS
  suffices hgo : ∀ (H : Heap) (locs : List Loc), va_P D vwCl (wC cI q lat und kpl len ncl spe sru sbe sen lets wrds nums tb tp tr knd sec brd rms std sn ss sb sp past kept) H → va_S A s.heap H locs → W p l e rm_X6_isPerson s m args below meth c H locs 0 0 Q (F0 m 0 ls []) from fun a b => hgo _ _ a b
  intro H locs hP hS
  refine lv_iload_n hx hb dX6_isPerson_0 rfl (lv_at hl 1 rfl) ?_
  have J1 : ∀ (H : Heap) (locs : List Loc) (ls : Array Slot), va_P D vwCl (wC cI q lat und kpl len ncl spe sru sbe sen lets wrds nums tb tp tr knd sec brd rms std sn ss sb sp past kept) H → va_D A (wC cI q lat und kpl len ncl spe sru sbe sen lets wrds nums tb tp tr knd sec brd rms std sn ss sb sp past kept) → va_S A s.heap H locs → lv_has ls 2 [(0, .ref (q 0)), (1, .int person)] → W p l e rm_X6_isPerson s m args below meth c H locs 0 0 Q (F0 m 20 ls [.int (v_X6_isPerson_1_0 tp person)]) := by
    intro H locs ls hP hD hS hl
    have hf : (f_X6_isPerson tp person) = (v_X6_isPerson_1_0 tp person) := rfl
    rw [hf] at hret
    exact hret _ _ _ _ hP hS dX6_isPerson_20
  refine lv_if_lt (tgt := 19) hx hb dX6_isPerson_1 (by decide) (fun c_1 => ?_) (fun c_1 => ?_)
  · skip
    refine lv_iconst (v := 0) hx hb dX6_isPerson_19 (by decide) ?_
    rw [show (v_X6_isPerson_1_0 tp person) = 0 from (if_pos c_1)] at J1
    exact J1 _ _ _ hP hD hS (lv_sub hl [0, 1] rfl)
  · skip
    refine lv_iload_n hx hb dX6_isPerson_4 rfl (lv_at hl 1 rfl) ?_
    refine lv_aload_n hx hb dX6_isPerson_5 rfl (lv_at hl 0 rfl) ?_
    refine va_get (D := D) (ci := 6) (v := .ref (q 8)) (C := RX6) (T := TX6) (N := 9) hx hb hts inlX6 hown hK hP 0 rfl rfl 1 (by decide) (kw hts kin_1 19 rfl) (fun _ h9 => h9) rfl dX6_isPerson_6 ?_
    refine va_get (D := D) (ci := 5) (v := .int tp) (C := RX5) (T := TX5) (N := 7) hx hb hts inlX5 hown hK hP 8 rfl rfl 1 (by decide) (kw hts kin_7 1 rfl) (fun _ h9 => h9) rfl dX6_isPerson_9 ?_
    refine lv_icmp_ge (tgt := 19) hx hb dX6_isPerson_12 (by decide) (fun c_12 => ?_) (fun c_12 => ?_)
    · skip
      refine lv_iconst (v := 0) hx hb dX6_isPerson_19 (by decide) ?_
      rw [show (v_X6_isPerson_1_0 tp person) = 0 from ((if_neg c_1).trans (if_pos c_12))] at J1
      exact J1 _ _ _ hP hD hS (lv_sub hl [0, 1] rfl)
    · skip
      refine lv_iconst (v := 1) hx hb dX6_isPerson_15 (by decide) ?_
      refine lv_goto (tgt := 20) hx hb dX6_isPerson_16 (by decide) ?_
      rw [show (v_X6_isPerson_1_0 tp person) = 1 from ((if_neg c_1).trans (if_neg c_12))] at J1
      exact J1 _ _ _ hP hD hS (lv_sub hl [0, 1] rfl)
