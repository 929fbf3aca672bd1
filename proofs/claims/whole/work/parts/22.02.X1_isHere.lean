def lo_X1_isHere_20 (sbe : Int32) (lets : Nat → Int32) (j : Nat) : Nat → Nat → Int32
  | 0, i => 1
  | k20 + 1, i => if (f_X0_at 160 lets (sbe + (nI i))) = (kch j i) then (lo_X1_isHere_20 sbe lets j k20 (i + 1)) else 0
def f_X1_isHere (sbe : Int32) (sen : Int32) (lets : Nat → Int32) (j : Nat) : Int32 := if (sen - sbe) = (nI (kSl.getD j 0)) then (lo_X1_isHere_20 sbe lets j (kSl.getD j 0) 0) else 0
abbrev rm_X1_isHere : Room := { frames := 4, cells := 0, slots := 0, locals := 85 }
theorem nb_X1_isHere (sbe sen : Int32) (lets : Nat → Int32) (j : Nat) : narrow .boolean (.int (f_X1_isHere sbe sen lets j)) = .int (f_X1_isHere sbe sen lets j) := by
  have h : ∀ k i : Nat, lo_X1_isHere_20 sbe lets j k i = 0 ∨ lo_X1_isHere_20 sbe lets j k i = 1 := by
    intro k
    induction k with
    | zero => intro i; rw [lo_X1_isHere_20]; exact Or.inr rfl
    | succ k ih =>
      intro i
      rw [lo_X1_isHere_20]
      split
      · exact ih _
      · exact Or.inl rfl
  unfold f_X1_isHere
  split
  · rcases h (kSl.getD j 0) 0 with e | e <;> rw [e] <;> rfl
  · rfl
set_option maxRecDepth 100000 in
set_option maxHeartbeats 4000000 in
theorem k_X1_isHere (l : Launch) (D : va_G) (cI cZ : ClassId) (adK adV : Nat → Nat) (q : Nat → Nat) (len : Int32) (ncl : Int32) (spe : Int32) (sru : Int32) (sbe : Int32) (sen : Int32) (lets : Nat → Int32) (wrds : Nat → Int32) (nums : Nat → Int32) (j : Nat) (hj : j < 7) : CI l D (kTy cI cZ) (kG adK adV) yX1_isHere (.code yX1_isHere cX1_isHere 3 (some .boolean) :: wsL_law) rm_X1_isHere [.ref (q 1), .ref (adK j)] (wScr cI q len ncl spe sru sbe sen lets wrds nums) (wScr cI q len ncl spe sru sbe sen lets wrds nums) (f_X1_isHere sbe sen lets j) := by
  refine CI.of (cc := cX1_isHere) (maxL := 3) (ty := .boolean) (by decide) rfl (Nat.le_of_ble_eq_true rfl) (nb_X1_isHere _ _ _ _) ?_
  intro p e s m args below meth c A Q ls hx hb hml hts0 hown hA hP hK hD hE hl hret
  have hts : ∀ w ∈ wsL_law, w.before args s = true := fun w h => hts0 w (List.mem_cons_of_mem _ h)
  clear hts0
  have hown : s.vm.findClass RX1 = some m.cls := hown
  have hl : lv_has ls 3 [(0, .ref (q 1)), (1, .ref (adK j))] := hl
  have hS : va_S A s.heap s.heap [] := va_S.rf
  revert hP hS
  suffices hgo : ∀ (H : Heap) (locs : List Loc), va_P D vwCl (wScr cI q len ncl spe sru sbe sen lets wrds nums) H → va_S A s.heap H locs → W p l e rm_X1_isHere s m args below meth c H locs 0 0 Q (F0 m 0 ls []) from fun a b => hgo _ _ a b
  intro H locs hP hS
  refine lv_aload_n hx hb dX1_isHere_0 rfl (lv_at hl 0 rfl) ?_
  refine va_get (D := D) (ci := 1) (v := .int sen) (C := RX1) (T := TX1) (N := 9) hx hb hts inlX1 hown hK hP 0 rfl rfl 8 (by decide) (kw hts kin_7 10 rfl) (fun _ h9 => h9) rfl dX1_isHere_1 ?_
  refine lv_aload_n hx hb dX1_isHere_4 rfl (lv_at hl 0 rfl) ?_
  refine va_get (D := D) (ci := 1) (v := .int sbe) (C := RX1) (T := TX1) (N := 9) hx hb hts inlX1 hown hK hP 0 rfl rfl 7 (by decide) (kw hts kin_7 11 rfl) (fun _ h9 => h9) rfl dX1_isHere_5 ?_
  refine lv_isub hx hb dX1_isHere_8 ?_
  refine lv_aload_n hx hb dX1_isHere_9 rfl (lv_at hl 1 rfl) ?_
  refine kvs (As := []) (rest := [.int (sen - sbe)]) (i := j) hj ⟨hx, hb, hml, hown, hts⟩ hP hK hD hS hA hE (k_J0_length l D cI cZ adK adV j hj) (kcv hts kM_J0_length_8abf5 (kin_8 _ (List.mem_of_getElem? (i := 15) rfl)) ⟨rfl, rfl⟩ ⟨Nat.le_of_ble_eq_true rfl, Nat.le_of_ble_eq_true rfl⟩) kBl_G kOk_G rfl hl.1 rfl (Nat.le_of_ble_eq_true rfl) dX1_isHere_10 (fun H locs hP hD hS => ?_)
  refine lv_icmp_eq (tgt := 18) hx hb dX1_isHere_13 (by decide) (fun c_13 => ?_) (fun c_13 => ?_)
  · skip
    refine lv_iconst (v := 0) hx hb dX1_isHere_18 (by decide) ?_
    refine lv_istore_n (lv' := [(2, .int 0), (0, .ref (q 1)), (1, .ref (adK j))]) hx hb dX1_isHere_19 rfl hl (by decide) rfl (fun ls hl => ?_)
    have lp20 : ∀ (k20 i : Nat), i + k20 = (kSl.getD j 0) → lo_X1_isHere_20 sbe lets j k20 i = (f_X1_isHere sbe sen lets j) → ∀ (H : Heap) (locs : List Loc) (ls : Array Slot), va_P D vwCl (wScr cI q len ncl spe sru sbe sen lets wrds nums) H → va_D A (wScr cI q len ncl spe sru sbe sen lets wrds nums) → va_S A s.heap H locs → lv_has ls 3 [(0, .ref (q 1)), (1, .ref (adK j)), (2, .int (nI i))] → W p l e rm_X1_isHere s m args below meth c H locs 0 0 Q (F0 m 20 ls []) := by
      intro k20
      induction k20 with
      | zero =>
        intro i hi20 ea20 H locs ls hP hD hS hl
        have hi20 : (kSl.getD j 0) = i := by omega
        subst hi20
        refine lv_iload_n hx hb dX1_isHere_20 rfl (lv_at hl 2 rfl) ?_
        refine lv_aload_n hx hb dX1_isHere_21 rfl (lv_at hl 1 rfl) ?_
        refine kvs (As := []) (rest := [.int (nI (kSl.getD j 0))]) (i := j) hj ⟨hx, hb, hml, hown, hts⟩ hP hK hD hS hA hE (k_J0_length l D cI cZ adK adV j hj) (kcv hts kM_J0_length_8abf5 (kin_8 _ (List.mem_of_getElem? (i := 15) rfl)) ⟨rfl, rfl⟩ ⟨Nat.le_of_ble_eq_true rfl, Nat.le_of_ble_eq_true rfl⟩) kBl_G kOk_G rfl hl.1 rfl (Nat.le_of_ble_eq_true rfl) dX1_isHere_22 (fun H locs hP hD hS => ?_)
        refine lv_icmp_ge (tgt := 57) hx hb dX1_isHere_25 (by decide) (fun _ => ?_) (fun c_25 => absurd (nI_le (Nat.le_refl _) (kSl_lt2 j hj)) c_25)
        refine lv_iconst (v := 1) hx hb dX1_isHere_57 (by decide) ?_
        have hf : (f_X1_isHere sbe sen lets j) = 1 := (ea20).symm.trans rfl
        rw [hf] at hret
        exact hret _ _ _ _ hP hS dX1_isHere_58
      | succ k20 ih20 =>
        intro i hi20 ea20 H locs ls hP hD hS hl
        have hlt20 : i < (kSl.getD j 0) := by omega
        refine lv_iload_n hx hb dX1_isHere_20 rfl (lv_at hl 2 rfl) ?_
        refine lv_aload_n hx hb dX1_isHere_21 rfl (lv_at hl 1 rfl) ?_
        refine kvs (As := []) (rest := [.int (nI i)]) (i := j) hj ⟨hx, hb, hml, hown, hts⟩ hP hK hD hS hA hE (k_J0_length l D cI cZ adK adV j hj) (kcv hts kM_J0_length_8abf5 (kin_8 _ (List.mem_of_getElem? (i := 15) rfl)) ⟨rfl, rfl⟩ ⟨Nat.le_of_ble_eq_true rfl, Nat.le_of_ble_eq_true rfl⟩) kBl_G kOk_G rfl hl.1 rfl (Nat.le_of_ble_eq_true rfl) dX1_isHere_22 (fun H locs hP hD hS => ?_)
        refine lv_icmp_ge (tgt := 57) hx hb dX1_isHere_25 (by decide) (fun c_25 => absurd c_25 (nI_ge hlt20 (kSl_lt2 j hj))) (fun _ => ?_)
        refine lv_aload_n hx hb dX1_isHere_28 rfl (lv_at hl 0 rfl) ?_
        refine va_get (D := D) (ci := 1) (v := .ref (q 2)) (C := RX1) (T := TX1) (N := 9) hx hb hts inlX1 hown hK hP 0 rfl rfl 0 (by decide) (kw hts kin_2 19 rfl) (fun _ h9 => h9) rfl dX1_isHere_29 ?_
        refine lv_aload_n hx hb dX1_isHere_32 rfl (lv_at hl 0 rfl) ?_
        refine va_get (D := D) (ci := 1) (v := .int sbe) (C := RX1) (T := TX1) (N := 9) hx hb hts inlX1 hown hK hP 0 rfl rfl 7 (by decide) (kw hts kin_7 11 rfl) (fun _ h9 => h9) rfl dX1_isHere_33 ?_
        refine lv_iload_n hx hb dX1_isHere_36 rfl (lv_at hl 2 rfl) ?_
        refine lv_iadd hx hb dX1_isHere_37 ?_
        refine kvi (As := [.int (sbe + (nI i))]) (rest := []) (q0 := 0) (ci := 0) ⟨hx, hb, hml, hown, hts⟩ hP hK hD hS hA hE (k_X0_at l D cI cZ adK adV (q 2) (q 3) 160 lets (sbe + (nI i)) (by decide)) (kcv hts kM_X0_at (kin_7 _ (List.mem_of_getElem? (i := 16) rfl)) ⟨rfl, rfl⟩ ⟨Nat.le_of_ble_eq_true rfl, Nat.le_of_ble_eq_true rfl⟩) kBl_G kOk_G (wScr cI q len ncl spe sru sbe sen lets wrds nums) (cut_scr_row_1_2 cI q len ncl spe sru sbe sen lets wrds nums lets).1 (cut_scr_row_1_2 cI q len ncl spe sru sbe sen lets wrds nums lets).2 rfl rfl rfl rfl hl.1 rfl (Nat.le_of_ble_eq_true rfl) dX1_isHere_38 (fun H locs hP hD hS => ?_)
        refine lv_aload_n hx hb dX1_isHere_41 rfl (lv_at hl 1 rfl) ?_
        refine lv_iload_n hx hb dX1_isHere_42 rfl (lv_at hl 2 rfl) ?_
        refine kvs (As := [.int (nI i)]) (rest := [.int (f_X0_at 160 lets (sbe + (nI i)))]) (i := j) hj ⟨hx, hb, hml, hown, hts⟩ hP hK hD hS hA hE (k_J0_charAt l D cI cZ adK adV j i hj hlt20) (kcv hts kM_J0_charAt_5068e (kin_9 _ (List.mem_of_getElem? (i := 3) rfl)) ⟨rfl, rfl⟩ ⟨Nat.le_of_ble_eq_true rfl, Nat.le_of_ble_eq_true rfl⟩) kBl_G kOk_G rfl hl.1 rfl (Nat.le_of_ble_eq_true rfl) dX1_isHere_43 (fun H locs hP hD hS => ?_)
        refine lv_icmp_eq (tgt := 51) hx hb dX1_isHere_46 (by decide) (fun c_46 => ?_) (fun c_46 => ?_)
        · skip
          refine lv_iinc (v := (nI (i + 1))) (lv' := [(2, .int (nI (i + 1))), (0, .ref (q 1)), (1, .ref (adK j))]) hx hb dX1_isHere_51 hl (k := 2) rfl (nI_1 i) (by decide) rfl (fun ls hl => ?_)
          refine lv_goto (tgt := 20) hx hb dX1_isHere_54 (by decide) ?_
          have hb20 : lo_X1_isHere_20 sbe lets j (k20 + 1) i = lo_X1_isHere_20 sbe lets j k20 (i + 1) := (if_pos c_46)
          exact ih20 (i + 1) (by omega) (hb20.symm.trans ea20) _ _ _ hP hD hS (lv_sub hl [1, 2, 0] rfl)
        · skip
          refine lv_iconst (v := 0) hx hb dX1_isHere_49 (by decide) ?_
          have hf : (f_X1_isHere sbe sen lets j) = 0 := (ea20).symm.trans (if_neg c_46)
          rw [hf] at hret
          exact hret _ _ _ _ hP hS dX1_isHere_50
    exact lp20 (kSl.getD j 0) 0 (Nat.zero_add _) (Eq.symm ((if_pos c_13) : (f_X1_isHere sbe sen lets j) = lo_X1_isHere_20 sbe lets j (kSl.getD j 0) 0)) _ _ _ hP hD hS (lv_sub hl [1, 2, 0] rfl)
  · skip
    refine lv_iconst (v := 0) hx hb dX1_isHere_16 (by decide) ?_
    have hf : (f_X1_isHere sbe sen lets j) = 0 := (if_neg c_13)
    rw [hf] at hret
    exact hret _ _ _ _ hP hS dX1_isHere_17
