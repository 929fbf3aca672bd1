def lo_X1_wordHere_2 (sbe : Int32) (sen : Int32) (lets : Nat → Int32) : Nat → Nat → Int32
  | 0, i => (-1)
  | k2 + 1, i => if (f_X1_isHere sbe sen lets (ksp (nI i))) = 0 then (lo_X1_wordHere_2 sbe sen lets k2 (i + 1)) else (nI i)
def f_X1_wordHere (sbe : Int32) (sen : Int32) (lets : Nat → Int32) : Int32 := lo_X1_wordHere_2 sbe sen lets 7 0
abbrev rm_X1_wordHere : Room := { frames := 5, cells := 0, slots := 0, locals := 107 }
set_option maxRecDepth 100000 in
set_option maxHeartbeats 4000000 in
theorem k_X1_wordHere (l : Launch) (D : va_G) (cI cZ : ClassId) (adK adV : Nat → Nat) (q : Nat → Nat) (len : Int32) (ncl : Int32) (spe : Int32) (sru : Int32) (sbe : Int32) (sen : Int32) (lets : Nat → Int32) (wrds : Nat → Int32) (nums : Nat → Int32) : CI l D (kTy cI cZ) (kG adK adV) yX1_wordHere (.code yX1_wordHere cX1_wordHere 2 (some .int) :: wsL_law) rm_X1_wordHere [.ref (q 1)] (wScr cI q len ncl spe sru sbe sen lets wrds nums) (wScr cI q len ncl spe sru sbe sen lets wrds nums) (f_X1_wordHere sbe sen lets) := by
  refine CI.of (cc := cX1_wordHere) (maxL := 2) (ty := .int) (by decide) rfl (Nat.le_of_ble_eq_true rfl) rfl ?_
  intro p e s m args below meth c A Q ls hx hb hml hts0 hown hA hP hK hD hE hl hret
  have hts : ∀ w ∈ wsL_law, w.before args s = true := fun w h => hts0 w (List.mem_cons_of_mem _ h)
  clear hts0
  have hown : s.vm.findClass RX1 = some m.cls := hown
  have hl : lv_has ls 2 [(0, .ref (q 1))] := hl
  have hS : va_S A s.heap s.heap [] := va_S.rf
  revert hP hS
  suffices hgo : ∀ (H : Heap) (locs : List Loc), va_P D vwCl (wScr cI q len ncl spe sru sbe sen lets wrds nums) H → va_S A s.heap H locs → W p l e rm_X1_wordHere s m args below meth c H locs 0 0 Q (F0 m 0 ls []) from fun a b => hgo _ _ a b
  intro H locs hP hS
  refine lv_iconst (v := 0) hx hb dX1_wordHere_0 (by decide) ?_
  refine lv_istore_n (lv' := [(1, .int 0), (0, .ref (q 1))]) hx hb dX1_wordHere_1 rfl hl (by decide) rfl (fun ls hl => ?_)
  have lp2 : ∀ (k2 i : Nat), i + k2 = 7 → lo_X1_wordHere_2 sbe sen lets k2 i = (f_X1_wordHere sbe sen lets) → ∀ (H : Heap) (locs : List Loc) (ls : Array Slot), va_P D vwCl (wScr cI q len ncl spe sru sbe sen lets wrds nums) H → va_D A (wScr cI q len ncl spe sru sbe sen lets wrds nums) → va_S A s.heap H locs → lv_has ls 2 [(0, .ref (q 1)), (1, .int (nI i))] → W p l e rm_X1_wordHere s m args below meth c H locs 0 0 Q (F0 m 2 ls []) := by
    intro k2
    induction k2 with
    | zero =>
      intro i hi2 ea2 H locs ls hP hD hS hl
      have hi2 : 7 = i := by omega
      subst hi2
      refine lv_iload_n hx hb dX1_wordHere_2 rfl (lv_at hl 1 rfl) ?_
      refine lv_bipush (v := 7) hx hb dX1_wordHere_3 (by decide) ?_
      refine lv_icmp_ge (tgt := 27) hx hb dX1_wordHere_5 (by decide) (fun _ => ?_) (fun c_5 => absurd (nI_le (Nat.le_refl _) (by decide)) c_5)
      refine lv_iconst (v := (-1)) hx hb dX1_wordHere_27 (by decide) ?_
      have hf : (f_X1_wordHere sbe sen lets) = (-1) := (ea2).symm.trans rfl
      rw [hf] at hret
      exact hret _ _ _ _ hP hS dX1_wordHere_28
    | succ k2 ih2 =>
      intro i hi2 ea2 H locs ls hP hD hS hl
      have hlt2 : i < 7 := by omega
      refine lv_iload_n hx hb dX1_wordHere_2 rfl (lv_at hl 1 rfl) ?_
      refine lv_bipush (v := 7) hx hb dX1_wordHere_3 (by decide) ?_
      refine lv_icmp_ge (tgt := 27) hx hb dX1_wordHere_5 (by decide) (fun c_5 => absurd c_5 (nI_ge hlt2 (by decide))) (fun _ => ?_)
      refine lv_aload_n hx hb dX1_wordHere_8 rfl (lv_at hl 0 rfl) ?_
      refine lv_iload_n hx hb dX1_wordHere_9 rfl (lv_at hl 1 rfl) ?_
      refine ksr (As := [.int (nI i)]) (rest := [.ref (q 1)]) ⟨hx, hb, hml, hown, hts⟩ hP hK hD hS hA hE (k_X1_spelling l D cI cZ adK adV (nI i)) (kcs hts kM_X1_spelling (kin_8 _ (List.mem_of_getElem? (i := 8) rfl)) ⟨rfl, rfl⟩ ⟨Nat.le_of_ble_eq_true rfl, Nat.le_of_ble_eq_true rfl⟩) kBl_G kOk_G rfl hl.1 rfl (Nat.le_of_ble_eq_true rfl) dX1_wordHere_10 (fun H locs hP hD hS => ?_)
      refine kvi (As := [.ref (adK (ksp (nI i)))]) (rest := []) (q0 := 0) (ci := 1) ⟨hx, hb, hml, hown, hts⟩ hP hK hD hS hA hE (k_X1_isHere l D cI cZ adK adV q len ncl spe sru sbe sen lets wrds nums (ksp (nI i)) (ksp_lt _)) (kcv hts kM_X1_isHere (kin_8 _ (List.mem_of_getElem? (i := 11) rfl)) ⟨rfl, rfl⟩ ⟨Nat.le_of_ble_eq_true rfl, Nat.le_of_ble_eq_true rfl⟩) kBl_G kOk_G (wScr cI q len ncl spe sru sbe sen lets wrds nums) (cut_scr_scr cI q len ncl spe sru sbe sen lets wrds nums len ncl spe sru sbe sen lets wrds nums).1 (cut_scr_scr cI q len ncl spe sru sbe sen lets wrds nums len ncl spe sru sbe sen lets wrds nums).2 rfl rfl rfl rfl hl.1 rfl (Nat.le_of_ble_eq_true rfl) dX1_wordHere_13 (fun H locs hP hD hS => ?_)
      refine lv_if_eq (tgt := 21) hx hb dX1_wordHere_16 (by decide) (fun c_16 => ?_) (fun c_16 => ?_)
      · skip
        refine lv_iinc (v := (nI (i + 1))) (lv' := [(1, .int (nI (i + 1))), (0, .ref (q 1))]) hx hb dX1_wordHere_21 hl (k := 1) rfl (nI_1 i) (by decide) rfl (fun ls hl => ?_)
        refine lv_goto (tgt := 2) hx hb dX1_wordHere_24 (by decide) ?_
        have hb2 : lo_X1_wordHere_2 sbe sen lets (k2 + 1) i = lo_X1_wordHere_2 sbe sen lets k2 (i + 1) := (if_pos c_16)
        exact ih2 (i + 1) (by omega) (hb2.symm.trans ea2) _ _ _ hP hD hS (lv_sub hl [1, 0] rfl)
      · skip
        refine lv_iload_n hx hb dX1_wordHere_19 rfl (lv_at hl 1 rfl) ?_
        have hf : (f_X1_wordHere sbe sen lets) = (nI i) := (ea2).symm.trans (if_neg c_16)
        rw [hf] at hret
        exact hret _ _ _ _ hP hS dX1_wordHere_20
  exact lp2 7 0 (Nat.zero_add _) (Eq.symm (rfl : (f_X1_wordHere sbe sen lets) = lo_X1_wordHere_2 sbe sen lets 7 0)) _ _ _ hP hD hS (lv_sub hl [1, 0] rfl)
