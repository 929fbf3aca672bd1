def f_X1_addLetter (len : Int32) (lets : Nat → Int32) (letter : Int32) : Int32 × (Nat → Int32) := ((if (len + 1) < 160 then (len + 1) else 160), (f_X0_put 160 lets len letter))
abbrev rm_X1_addLetter : Room := { frames := 1, cells := 0, slots := 0, locals := 22 }
set_option maxRecDepth 100000 in
theorem cut_scr_row_1_2 (cI : ClassId) (q : Nat → Nat) (len : Int32) (ncl : Int32) (spe : Int32) (sru : Int32) (sbe : Int32) (sen : Int32) (lets : Nat → Int32) (wrds : Nat → Int32) (nums : Nat → Int32) (n_f : Nat → Int32) : kCut (wScr cI q len ncl spe sru sbe sen lets wrds nums) (wR cI (q 2) (q 3) 160 lets) (wR cI (q 2) (q 3) 160 n_f) (wScr cI q len ncl spe sru sbe sen n_f wrds nums) [((q 1), .inr (1, [.ref (q 2), .ref (q 4), .ref (q 6), .int len, .int ncl, .int spe, .int sru, .int sbe, .int sen])), ((q 4), .inr (0, [.ref (q 5)])), ((q 5), .inl (cI, 14, .inl wrds)), ((q 6), .inr (0, [.ref (q 7)])), ((q 7), .inl (cI, 42, .inl nums))] [1, 2] [0, 3, 4, 5, 6] [0, 5, 6, 1, 2, 3, 4] [q 2, q 3] ∧ kNd [1, 2] [0, 3, 4, 5, 6] [0, 5, 6, 1, 2, 3, 4] = true := ⟨⟨rfl, rfl, ⟨rfl, rfl⟩, rfl⟩, by decide +kernel⟩
set_option maxRecDepth 100000 in
set_option maxHeartbeats 4000000 in
theorem k_X1_addLetter (l : Launch) (D : va_G) (cI cZ : ClassId) (adK adV : Nat → Nat) (q : Nat → Nat) (len : Int32) (ncl : Int32) (spe : Int32) (sru : Int32) (sbe : Int32) (sen : Int32) (lets : Nat → Int32) (wrds : Nat → Int32) (nums : Nat → Int32) (letter : Int32) : CV l D (kTy cI cZ) (kG adK adV) yX1_addLetter (.code yX1_addLetter cX1_addLetter 2 none :: wsL_law) rm_X1_addLetter [.ref (q 1), .int letter] (wScr cI q len ncl spe sru sbe sen lets wrds nums) (wScr cI q ((f_X1_addLetter len lets letter).1) ncl spe sru sbe sen ((f_X1_addLetter len lets letter).2) wrds nums) := by
  refine CV.of (cc := cX1_addLetter) (maxL := 2) (by decide) rfl (Nat.le_of_ble_eq_true rfl) ?_
  intro p e s m args below meth c A Q ls hx hb hml hts0 hown hA hP hK hD hE hl hret
  have hts : ∀ w ∈ wsL_law, w.before args s = true := fun w h => hts0 w (List.mem_cons_of_mem _ h)
  clear hts0
  have hown : s.vm.findClass RX1 = some m.cls := hown
  have hl : lv_has ls 2 [(0, .ref (q 1)), (1, .int letter)] := hl
  have hS : va_S A s.heap s.heap [] := va_S.rf
  revert hP hS
  suffices hgo : ∀ (H : Heap) (locs : List Loc), va_P D vwCl (wScr cI q len ncl spe sru sbe sen lets wrds nums) H → va_S A s.heap H locs → W p l e rm_X1_addLetter s m args below meth c H locs 0 0 Q (F0 m 0 ls []) from fun a b => hgo _ _ a b
  intro H locs hP hS
  refine lv_aload_n hx hb dX1_addLetter_0 rfl (lv_at hl 0 rfl) ?_
  refine va_get (D := D) (ci := 1) (v := .ref (q 2)) (C := RX1) (T := TX1) (N := 9) hx hb hts inlX1 hown hK hP 0 rfl rfl 0 (by decide) (kw hts kin_2 19 rfl) (fun _ h9 => h9) rfl dX1_addLetter_1 ?_
  refine lv_aload_n hx hb dX1_addLetter_4 rfl (lv_at hl 0 rfl) ?_
  refine va_get (D := D) (ci := 1) (v := .int len) (C := RX1) (T := TX1) (N := 9) hx hb hts inlX1 hown hK hP 0 rfl rfl 3 (by decide) (kw hts kin_5 16 rfl) (fun _ h9 => h9) rfl dX1_addLetter_5 ?_
  refine lv_iload_n hx hb dX1_addLetter_8 rfl (lv_at hl 1 rfl) ?_
  refine kvv (As := [.int len, .int letter]) (rest := []) (q0 := 0) (ci := 0) ⟨hx, hb, hml, hown, hts⟩ hP hK hD hS hA hE (k_X0_put l D cI cZ adK adV (q 2) (q 3) 160 lets len letter (by decide)) (kcv hts kM_X0_put (kin_5 _ (List.mem_of_getElem? (i := 20) rfl)) ⟨rfl, rfl⟩ ⟨Nat.le_of_ble_eq_true rfl, Nat.le_of_ble_eq_true rfl⟩) kBl_G kOk_G (wScr cI q len ncl spe sru sbe sen (f_X0_put 160 lets len letter) wrds nums) (cut_scr_row_1_2 cI q len ncl spe sru sbe sen lets wrds nums (f_X0_put 160 lets len letter)).1 (cut_scr_row_1_2 cI q len ncl spe sru sbe sen lets wrds nums (f_X0_put 160 lets len letter)).2 rfl rfl rfl rfl hl.1 rfl (Nat.le_of_ble_eq_true rfl) dX1_addLetter_9 (fun H locs hP hD hS => ?_)
  refine lv_aload_n hx hb dX1_addLetter_12 rfl (lv_at hl 0 rfl) ?_
  refine lv_sipush (v := 160) hx hb dX1_addLetter_13 (by decide) ?_
  refine lv_aload_n hx hb dX1_addLetter_16 rfl (lv_at hl 0 rfl) ?_
  refine va_get (D := D) (ci := 1) (v := .int len) (C := RX1) (T := TX1) (N := 9) hx hb hts inlX1 hown hK hP 0 rfl rfl 3 (by decide) (kw hts kin_5 16 rfl) (fun _ h9 => h9) rfl dX1_addLetter_17 ?_
  refine lv_iconst (v := 1) hx hb dX1_addLetter_20 (by decide) ?_
  refine lv_iadd hx hb dX1_addLetter_21 ?_
  refine va_mmin hx hb (hml.trans hl.1.symm) hown (kw hts kin_5 17 rfl) (kw hts kin_5 18 rfl) (kw hts kin_3 4 rfl) (kw hts kin_5 19 rfl) (Nat.le_of_ble_eq_true rfl) (Nat.le_of_ble_eq_true rfl) (Nat.zero_le _) (Nat.zero_le _) dX1_addLetter_22 ?_
  refine va_put (D := D) (ci := 1) (v := .int (if (len + 1) < 160 then (len + 1) else 160)) (ty := .int) (C := RX1) (T := TX1) (N := 9) hx hb hts inlX1 tyX1 tyX1_ok nmX1 hown hK hP hD hS 0 rfl rfl 3 (by decide) (kw hts kin_5 16 rfl) (fun _ h9 => h9) rfl (by decide +kernel) rfl rfl (Nat.le_of_ble_eq_true rfl) dX1_addLetter_25 (fun H locs hP hD hS => ?_)
  have hP : va_P D vwCl (wScr cI q (if (len + 1) < 160 then (len + 1) else 160) ncl spe sru sbe sen (f_X0_put 160 lets len letter) wrds nums) H := hP
  have hD : va_D A (wScr cI q (if (len + 1) < 160 then (len + 1) else 160) ncl spe sru sbe sen (f_X0_put 160 lets len letter) wrds nums) := hD
  have hf : (f_X1_addLetter len lets letter) = ((if (len + 1) < 160 then (len + 1) else 160), (f_X0_put 160 lets len letter)) := rfl
  rw [hf] at hret
  dsimp only at hret
  exact hret _ _ _ _ hP hS dX1_addLetter_28
def f_X1_empty : Int32 := 0
abbrev rm_X1_empty : Room := { frames := 0, cells := 0, slots := 0, locals := 0 }
set_option maxRecDepth 100000 in
set_option maxHeartbeats 4000000 in
theorem k_X1_empty (l : Launch) (D : va_G) (cI cZ : ClassId) (adK adV : Nat → Nat) (q : Nat → Nat) (len : Int32) (ncl : Int32) (spe : Int32) (sru : Int32) (sbe : Int32) (sen : Int32) (lets : Nat → Int32) (wrds : Nat → Int32) (nums : Nat → Int32) : CV l D (kTy cI cZ) (kG adK adV) yX1_empty (.code yX1_empty cX1_empty 1 none :: wsL_law) rm_X1_empty [.ref (q 1)] (wScr cI q len ncl spe sru sbe sen lets wrds nums) (wScr cI q f_X1_empty ncl spe sru sbe sen lets wrds nums) := by
  refine CV.of (cc := cX1_empty) (maxL := 1) (by decide) rfl (Nat.le_of_ble_eq_true rfl) ?_
  intro p e s m args below meth c A Q ls hx hb hml hts0 hown hA hP hK hD hE hl hret
  have hts : ∀ w ∈ wsL_law, w.before args s = true := fun w h => hts0 w (List.mem_cons_of_mem _ h)
  clear hts0
  have hown : s.vm.findClass RX1 = some m.cls := hown
  have hl : lv_has ls 1 [(0, .ref (q 1))] := hl
  have hS : va_S A s.heap s.heap [] := va_S.rf
  revert hP hS
  suffices hgo : ∀ (H : Heap) (locs : List Loc), va_P D vwCl (wScr cI q len ncl spe sru sbe sen lets wrds nums) H → va_S A s.heap H locs → W p l e rm_X1_empty s m args below meth c H locs 0 0 Q (F0 m 0 ls []) from fun a b => hgo _ _ a b
  intro H locs hP hS
  refine lv_aload_n hx hb dX1_empty_0 rfl (lv_at hl 0 rfl) ?_
  refine lv_iconst (v := 0) hx hb dX1_empty_1 (by decide) ?_
  refine va_put (D := D) (ci := 1) (v := .int 0) (ty := .int) (C := RX1) (T := TX1) (N := 9) hx hb hts inlX1 tyX1 tyX1_ok nmX1 hown hK hP hD hS 0 rfl rfl 3 (by decide) (kw hts kin_5 16 rfl) (fun _ h9 => h9) rfl (by decide +kernel) rfl rfl (Nat.le_of_ble_eq_true rfl) dX1_empty_2 (fun H locs hP hD hS => ?_)
  have hP : va_P D vwCl (wScr cI q 0 ncl spe sru sbe sen lets wrds nums) H := hP
  have hD : va_D A (wScr cI q 0 ncl spe sru sbe sen lets wrds nums) := hD
  have hf : f_X1_empty = 0 := rfl
  rw [hf] at hret
  exact hret _ _ _ _ hP hS dX1_empty_5
def f_X1_wordOf (wrds : Nat → Int32) (clause : Int32) : Int32 := (f_X0_at 14 wrds clause)
abbrev rm_X1_wordOf : Room := { frames := 1, cells := 0, slots := 0, locals := 21 }
set_option maxRecDepth 100000 in
theorem cut_scr_row_3_4 (cI : ClassId) (q : Nat → Nat) (len : Int32) (ncl : Int32) (spe : Int32) (sru : Int32) (sbe : Int32) (sen : Int32) (lets : Nat → Int32) (wrds : Nat → Int32) (nums : Nat → Int32) (n_f : Nat → Int32) : kCut (wScr cI q len ncl spe sru sbe sen lets wrds nums) (wR cI (q 4) (q 5) 14 wrds) (wR cI (q 4) (q 5) 14 n_f) (wScr cI q len ncl spe sru sbe sen lets n_f nums) [((q 1), .inr (1, [.ref (q 2), .ref (q 4), .ref (q 6), .int len, .int ncl, .int spe, .int sru, .int sbe, .int sen])), ((q 2), .inr (0, [.ref (q 3)])), ((q 3), .inl (cI, 160, .inl lets)), ((q 6), .inr (0, [.ref (q 7)])), ((q 7), .inl (cI, 42, .inl nums))] [3, 4] [0, 1, 2, 5, 6] [0, 1, 2, 5, 6, 3, 4] [q 4, q 5] ∧ kNd [3, 4] [0, 1, 2, 5, 6] [0, 1, 2, 5, 6, 3, 4] = true := ⟨⟨rfl, rfl, ⟨rfl, rfl⟩, rfl⟩, by decide +kernel⟩
set_option maxRecDepth 100000 in
set_option maxHeartbeats 4000000 in
theorem k_X1_wordOf (l : Launch) (D : va_G) (cI cZ : ClassId) (adK adV : Nat → Nat) (q : Nat → Nat) (len : Int32) (ncl : Int32) (spe : Int32) (sru : Int32) (sbe : Int32) (sen : Int32) (lets : Nat → Int32) (wrds : Nat → Int32) (nums : Nat → Int32) (clause : Int32) : CI l D (kTy cI cZ) (kG adK adV) yX1_wordOf (.code yX1_wordOf cX1_wordOf 2 (some .int) :: wsL_law) rm_X1_wordOf [.ref (q 1), .int clause] (wScr cI q len ncl spe sru sbe sen lets wrds nums) (wScr cI q len ncl spe sru sbe sen lets wrds nums) (f_X1_wordOf wrds clause) := by
  refine CI.of (cc := cX1_wordOf) (maxL := 2) (ty := .int) (by decide) rfl (Nat.le_of_ble_eq_true rfl) rfl ?_
  intro p e s m args below meth c A Q ls hx hb hml hts0 hown hA hP hK hD hE hl hret
  have hts : ∀ w ∈ wsL_law, w.before args s = true := fun w h => hts0 w (List.mem_cons_of_mem _ h)
  clear hts0
  have hown : s.vm.findClass RX1 = some m.cls := hown
  have hl : lv_has ls 2 [(0, .ref (q 1)), (1, .int clause)] := hl
  have hS : va_S A s.heap s.heap [] := va_S.rf
  revert hP hS
  suffices hgo : ∀ (H : Heap) (locs : List Loc), va_P D vwCl (wScr cI q len ncl spe sru sbe sen lets wrds nums) H → va_S A s.heap H locs → W p l e rm_X1_wordOf s m args below meth c H locs 0 0 Q (F0 m 0 ls []) from fun a b => hgo _ _ a b
  intro H locs hP hS
  refine lv_aload_n hx hb dX1_wordOf_0 rfl (lv_at hl 0 rfl) ?_
  refine va_get (D := D) (ci := 1) (v := .ref (q 4)) (C := RX1) (T := TX1) (N := 9) hx hb hts inlX1 hown hK hP 0 rfl rfl 1 (by decide) (kw hts kin_2 20 rfl) (fun _ h9 => h9) rfl dX1_wordOf_1 ?_
  refine lv_iload_n hx hb dX1_wordOf_4 rfl (lv_at hl 1 rfl) ?_
  refine kvi (As := [.int clause]) (rest := []) (q0 := 0) (ci := 0) ⟨hx, hb, hml, hown, hts⟩ hP hK hD hS hA hE (k_X0_at l D cI cZ adK adV (q 4) (q 5) 14 wrds clause (by decide)) (kcv hts kM_X0_at (kin_7 _ (List.mem_of_getElem? (i := 16) rfl)) ⟨rfl, rfl⟩ ⟨Nat.le_of_ble_eq_true rfl, Nat.le_of_ble_eq_true rfl⟩) kBl_G kOk_G (wScr cI q len ncl spe sru sbe sen lets wrds nums) (cut_scr_row_3_4 cI q len ncl spe sru sbe sen lets wrds nums wrds).1 (cut_scr_row_3_4 cI q len ncl spe sru sbe sen lets wrds nums wrds).2 rfl rfl rfl rfl hl.1 rfl (Nat.le_of_ble_eq_true rfl) dX1_wordOf_5 (fun H locs hP hD hS => ?_)
  have hf : (f_X1_wordOf wrds clause) = (f_X0_at 14 wrds clause) := rfl
  rw [hf] at hret
  exact hret _ _ _ _ hP hS dX1_wordOf_8
def f_X1_numberOf (nums : Nat → Int32) (clause : Int32) (which : Int32) : Int32 := (f_X0_at 42 nums ((clause * 3) + which))
abbrev rm_X1_numberOf : Room := { frames := 1, cells := 0, slots := 0, locals := 21 }
set_option maxRecDepth 100000 in
theorem cut_scr_row_5_6 (cI : ClassId) (q : Nat → Nat) (len : Int32) (ncl : Int32) (spe : Int32) (sru : Int32) (sbe : Int32) (sen : Int32) (lets : Nat → Int32) (wrds : Nat → Int32) (nums : Nat → Int32) (n_f : Nat → Int32) : kCut (wScr cI q len ncl spe sru sbe sen lets wrds nums) (wR cI (q 6) (q 7) 42 nums) (wR cI (q 6) (q 7) 42 n_f) (wScr cI q len ncl spe sru sbe sen lets wrds n_f) [((q 1), .inr (1, [.ref (q 2), .ref (q 4), .ref (q 6), .int len, .int ncl, .int spe, .int sru, .int sbe, .int sen])), ((q 2), .inr (0, [.ref (q 3)])), ((q 3), .inl (cI, 160, .inl lets)), ((q 4), .inr (0, [.ref (q 5)])), ((q 5), .inl (cI, 14, .inl wrds))] [5, 6] [0, 1, 2, 3, 4] [0, 1, 2, 3, 4, 5, 6] [q 6, q 7] ∧ kNd [5, 6] [0, 1, 2, 3, 4] [0, 1, 2, 3, 4, 5, 6] = true := ⟨⟨rfl, rfl, ⟨rfl, rfl⟩, rfl⟩, by decide +kernel⟩
set_option maxRecDepth 100000 in
set_option maxHeartbeats 4000000 in
theorem k_X1_numberOf (l : Launch) (D : va_G) (cI cZ : ClassId) (adK adV : Nat → Nat) (q : Nat → Nat) (len : Int32) (ncl : Int32) (spe : Int32) (sru : Int32) (sbe : Int32) (sen : Int32) (lets : Nat → Int32) (wrds : Nat → Int32) (nums : Nat → Int32) (clause : Int32) (which : Int32) : CI l D (kTy cI cZ) (kG adK adV) yX1_numberOf (.code yX1_numberOf cX1_numberOf 3 (some .int) :: wsL_law) rm_X1_numberOf [.ref (q 1), .int clause, .int which] (wScr cI q len ncl spe sru sbe sen lets wrds nums) (wScr cI q len ncl spe sru sbe sen lets wrds nums) (f_X1_numberOf nums clause which) := by
  refine CI.of (cc := cX1_numberOf) (maxL := 3) (ty := .int) (by decide) rfl (Nat.le_of_ble_eq_true rfl) rfl ?_
  intro p e s m args below meth c A Q ls hx hb hml hts0 hown hA hP hK hD hE hl hret
  have hts : ∀ w ∈ wsL_law, w.before args s = true := fun w h => hts0 w (List.mem_cons_of_mem _ h)
  clear hts0
  have hown : s.vm.findClass RX1 = some m.cls := hown
  have hl : lv_has ls 3 [(0, .ref (q 1)), (1, .int clause), (2, .int which)] := hl
  have hS : va_S A s.heap s.heap [] := va_S.rf
  revert hP hS
  suffices hgo : ∀ (H : Heap) (locs : List Loc), va_P D vwCl (wScr cI q len ncl spe sru sbe sen lets wrds nums) H → va_S A s.heap H locs → W p l e rm_X1_numberOf s m args below meth c H locs 0 0 Q (F0 m 0 ls []) from fun a b => hgo _ _ a b
  intro H locs hP hS
  refine lv_aload_n hx hb dX1_numberOf_0 rfl (lv_at hl 0 rfl) ?_
  refine va_get (D := D) (ci := 1) (v := .ref (q 6)) (C := RX1) (T := TX1) (N := 9) hx hb hts inlX1 hown hK hP 0 rfl rfl 2 (by decide) (kw hts kin_2 21 rfl) (fun _ h9 => h9) rfl dX1_numberOf_1 ?_
  refine lv_iload_n hx hb dX1_numberOf_4 rfl (lv_at hl 1 rfl) ?_
  refine lv_iconst (v := 3) hx hb dX1_numberOf_5 (by decide) ?_
  refine lv_imul hx hb dX1_numberOf_6 ?_
  refine lv_iload_n hx hb dX1_numberOf_7 rfl (lv_at hl 2 rfl) ?_
  refine lv_iadd hx hb dX1_numberOf_8 ?_
  refine kvi (As := [.int ((clause * 3) + which)]) (rest := []) (q0 := 0) (ci := 0) ⟨hx, hb, hml, hown, hts⟩ hP hK hD hS hA hE (k_X0_at l D cI cZ adK adV (q 6) (q 7) 42 nums ((clause * 3) + which) (by decide)) (kcv hts kM_X0_at (kin_7 _ (List.mem_of_getElem? (i := 16) rfl)) ⟨rfl, rfl⟩ ⟨Nat.le_of_ble_eq_true rfl, Nat.le_of_ble_eq_true rfl⟩) kBl_G kOk_G (wScr cI q len ncl spe sru sbe sen lets wrds nums) (cut_scr_row_5_6 cI q len ncl spe sru sbe sen lets wrds nums nums).1 (cut_scr_row_5_6 cI q len ncl spe sru sbe sen lets wrds nums nums).2 rfl rfl rfl rfl hl.1 rfl (Nat.le_of_ble_eq_true rfl) dX1_numberOf_9 (fun H locs hP hD hS => ?_)
  have hf : (f_X1_numberOf nums clause which) = (f_X0_at 42 nums ((clause * 3) + which)) := rfl
  rw [hf] at hret
  exact hret _ _ _ _ hP hS dX1_numberOf_12
def v_X1_sortAt_26_0 (lets : Nat → Int32) (place : Int32) : Int32 := if (f_X0_at 160 lets place) < 48 then 0 else (if 57 < (f_X0_at 160 lets place) then 0 else 2)
def f_X1_sortAt (lets : Nat → Int32) (place : Int32) : Int32 := if (f_X0_at 160 lets place) < 97 then (v_X1_sortAt_26_0 lets place) else (if 122 < (f_X0_at 160 lets place) then (v_X1_sortAt_26_0 lets place) else 1)
abbrev rm_X1_sortAt : Room := { frames := 1, cells := 0, slots := 0, locals := 21 }
set_option maxRecDepth 100000 in
set_option maxHeartbeats 4000000 in
theorem k_X1_sortAt (l : Launch) (D : va_G) (cI cZ : ClassId) (adK adV : Nat → Nat) (q : Nat → Nat) (len : Int32) (ncl : Int32) (spe : Int32) (sru : Int32) (sbe : Int32) (sen : Int32) (lets : Nat → Int32) (wrds : Nat → Int32) (nums : Nat → Int32) (place : Int32) : CI l D (kTy cI cZ) (kG adK adV) yX1_sortAt (.code yX1_sortAt cX1_sortAt 3 (some .int) :: wsL_law) rm_X1_sortAt [.ref (q 1), .int place] (wScr cI q len ncl spe sru sbe sen lets wrds nums) (wScr cI q len ncl spe sru sbe sen lets wrds nums) (f_X1_sortAt lets place) := by
  refine CI.of (cc := cX1_sortAt) (maxL := 3) (ty := .int) (by decide) rfl (Nat.le_of_ble_eq_true rfl) rfl ?_
  intro p e s m args below meth c A Q ls hx hb hml hts0 hown hA hP hK hD hE hl hret
  have hts : ∀ w ∈ wsL_law, w.before args s = true := fun w h => hts0 w (List.mem_cons_of_mem _ h)
  clear hts0
  have hown : s.vm.findClass RX1 = some m.cls := hown
  have hl : lv_has ls 3 [(0, .ref (q 1)), (1, .int place)] := hl
  have hS : va_S A s.heap s.heap [] := va_S.rf
  revert hP hS
  suffices hgo : ∀ (H : Heap) (locs : List Loc), va_P D vwCl (wScr cI q len ncl spe sru sbe sen lets wrds nums) H → va_S A s.heap H locs → W p l e rm_X1_sortAt s m args below meth c H locs 0 0 Q (F0 m 0 ls []) from fun a b => hgo _ _ a b
  intro H locs hP hS
  refine lv_aload_n hx hb dX1_sortAt_0 rfl (lv_at hl 0 rfl) ?_
  refine va_get (D := D) (ci := 1) (v := .ref (q 2)) (C := RX1) (T := TX1) (N := 9) hx hb hts inlX1 hown hK hP 0 rfl rfl 0 (by decide) (kw hts kin_2 19 rfl) (fun _ h9 => h9) rfl dX1_sortAt_1 ?_
  refine lv_iload_n hx hb dX1_sortAt_4 rfl (lv_at hl 1 rfl) ?_
  refine kvi (As := [.int place]) (rest := []) (q0 := 0) (ci := 0) ⟨hx, hb, hml, hown, hts⟩ hP hK hD hS hA hE (k_X0_at l D cI cZ adK adV (q 2) (q 3) 160 lets place (by decide)) (kcv hts kM_X0_at (kin_7 _ (List.mem_of_getElem? (i := 16) rfl)) ⟨rfl, rfl⟩ ⟨Nat.le_of_ble_eq_true rfl, Nat.le_of_ble_eq_true rfl⟩) kBl_G kOk_G (wScr cI q len ncl spe sru sbe sen lets wrds nums) (cut_scr_row_1_2 cI q len ncl spe sru sbe sen lets wrds nums lets).1 (cut_scr_row_1_2 cI q len ncl spe sru sbe sen lets wrds nums lets).2 rfl rfl rfl rfl hl.1 rfl (Nat.le_of_ble_eq_true rfl) dX1_sortAt_5 (fun H locs hP hD hS => ?_)
  refine lv_istore_n (lv' := [(2, .int (f_X0_at 160 lets place)), (0, .ref (q 1)), (1, .int place)]) hx hb dX1_sortAt_8 rfl hl (by decide) rfl (fun ls hl => ?_)
  refine lv_iload_n hx hb dX1_sortAt_9 rfl (lv_at hl 0 rfl) ?_
  refine lv_bipush (v := 97) hx hb dX1_sortAt_10 (by decide) ?_
  refine lv_icmp_lt (tgt := 23) hx hb dX1_sortAt_12 (by decide) (fun c_12 => ?_) (fun c_12 => ?_)
  · skip
    refine lv_iload_n hx hb dX1_sortAt_23 rfl (lv_at hl 0 rfl) ?_
    refine lv_bipush (v := 48) hx hb dX1_sortAt_24 (by decide) ?_
    have J26 : ∀ (H : Heap) (locs : List Loc) (ls : Array Slot), va_P D vwCl (wScr cI q len ncl spe sru sbe sen lets wrds nums) H → va_D A (wScr cI q len ncl spe sru sbe sen lets wrds nums) → va_S A s.heap H locs → lv_has ls 3 [(0, .ref (q 1)), (1, .int place), (2, .int (f_X0_at 160 lets place))] → W p l e rm_X1_sortAt s m args below meth c H locs 0 0 Q (F0 m 40 ls [.int (v_X1_sortAt_26_0 lets place)]) := by
      intro H locs ls hP hD hS hl
      have hf : (f_X1_sortAt lets place) = (v_X1_sortAt_26_0 lets place) := (if_pos c_12)
      rw [hf] at hret
      exact hret _ _ _ _ hP hS dX1_sortAt_40
    refine lv_icmp_lt (tgt := 39) hx hb dX1_sortAt_26 (by decide) (fun c_26 => ?_) (fun c_26 => ?_)
    · skip
      refine lv_iconst (v := 0) hx hb dX1_sortAt_39 (by decide) ?_
      rw [show (v_X1_sortAt_26_0 lets place) = 0 from (if_pos c_26)] at J26
      exact J26 _ _ _ hP hD hS (lv_sub hl [1, 2, 0] rfl)
    · skip
      refine lv_iload_n hx hb dX1_sortAt_29 rfl (lv_at hl 0 rfl) ?_
      refine lv_bipush (v := 57) hx hb dX1_sortAt_30 (by decide) ?_
      refine lv_icmp_gt (tgt := 39) hx hb dX1_sortAt_32 (by decide) (fun c_32 => ?_) (fun c_32 => ?_)
      · skip
        refine lv_iconst (v := 0) hx hb dX1_sortAt_39 (by decide) ?_
        rw [show (v_X1_sortAt_26_0 lets place) = 0 from ((if_neg c_26).trans (if_pos c_32))] at J26
        exact J26 _ _ _ hP hD hS (lv_sub hl [1, 2, 0] rfl)
      · skip
        refine lv_iconst (v := 2) hx hb dX1_sortAt_35 (by decide) ?_
        refine lv_goto (tgt := 40) hx hb dX1_sortAt_36 (by decide) ?_
        rw [show (v_X1_sortAt_26_0 lets place) = 2 from ((if_neg c_26).trans (if_neg c_32))] at J26
        exact J26 _ _ _ hP hD hS (lv_sub hl [1, 2, 0] rfl)
  · skip
    refine lv_iload_n hx hb dX1_sortAt_15 rfl (lv_at hl 0 rfl) ?_
    refine lv_bipush (v := 122) hx hb dX1_sortAt_16 (by decide) ?_
    refine lv_icmp_gt (tgt := 23) hx hb dX1_sortAt_18 (by decide) (fun c_18 => ?_) (fun c_18 => ?_)
    · skip
      refine lv_iload_n hx hb dX1_sortAt_23 rfl (lv_at hl 0 rfl) ?_
      refine lv_bipush (v := 48) hx hb dX1_sortAt_24 (by decide) ?_
      have J26 : ∀ (H : Heap) (locs : List Loc) (ls : Array Slot), va_P D vwCl (wScr cI q len ncl spe sru sbe sen lets wrds nums) H → va_D A (wScr cI q len ncl spe sru sbe sen lets wrds nums) → va_S A s.heap H locs → lv_has ls 3 [(0, .ref (q 1)), (1, .int place), (2, .int (f_X0_at 160 lets place))] → W p l e rm_X1_sortAt s m args below meth c H locs 0 0 Q (F0 m 40 ls [.int (v_X1_sortAt_26_0 lets place)]) := by
        intro H locs ls hP hD hS hl
        have hf : (f_X1_sortAt lets place) = (v_X1_sortAt_26_0 lets place) := ((if_neg c_12).trans (if_pos c_18))
        rw [hf] at hret
        exact hret _ _ _ _ hP hS dX1_sortAt_40
      refine lv_icmp_lt (tgt := 39) hx hb dX1_sortAt_26 (by decide) (fun c_26 => ?_) (fun c_26 => ?_)
      · skip
        refine lv_iconst (v := 0) hx hb dX1_sortAt_39 (by decide) ?_
        rw [show (v_X1_sortAt_26_0 lets place) = 0 from (if_pos c_26)] at J26
        exact J26 _ _ _ hP hD hS (lv_sub hl [1, 2, 0] rfl)
      · skip
        refine lv_iload_n hx hb dX1_sortAt_29 rfl (lv_at hl 0 rfl) ?_
        refine lv_bipush (v := 57) hx hb dX1_sortAt_30 (by decide) ?_
        refine lv_icmp_gt (tgt := 39) hx hb dX1_sortAt_32 (by decide) (fun c_32 => ?_) (fun c_32 => ?_)
        · skip
          refine lv_iconst (v := 0) hx hb dX1_sortAt_39 (by decide) ?_
          rw [show (v_X1_sortAt_26_0 lets place) = 0 from ((if_neg c_26).trans (if_pos c_32))] at J26
          exact J26 _ _ _ hP hD hS (lv_sub hl [1, 2, 0] rfl)
        · skip
          refine lv_iconst (v := 2) hx hb dX1_sortAt_35 (by decide) ?_
          refine lv_goto (tgt := 40) hx hb dX1_sortAt_36 (by decide) ?_
          rw [show (v_X1_sortAt_26_0 lets place) = 2 from ((if_neg c_26).trans (if_neg c_32))] at J26
          exact J26 _ _ _ hP hD hS (lv_sub hl [1, 2, 0] rfl)
    · skip
      refine lv_iconst (v := 1) hx hb dX1_sortAt_21 (by decide) ?_
      have hf : (f_X1_sortAt lets place) = 1 := ((if_neg c_12).trans (if_neg c_18))
      rw [hf] at hret
      exact hret _ _ _ _ hP hS dX1_sortAt_22
