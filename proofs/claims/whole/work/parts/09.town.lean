def f_X5_kindOf (knd : Nat → Int32) (person : Int32) : Int32 := (f_X0_at 6 knd person)
abbrev rm_X5_kindOf : Room := { frames := 1, cells := 0, slots := 0, locals := 21 }
set_option maxRecDepth 100000 in
theorem cut_town_row_1_2 (cI : ClassId) (q : Nat → Nat) (tb : Int32) (tp : Int32) (tr : Int32) (knd : Nat → Int32) (sec : Nat → Int32) (brd : Nat → Int32) (rms : Nat → Int32) (n_f : Nat → Int32) : kCut (wTown cI q tb tp tr knd sec brd rms) (wR cI (q 9) (q 10) 6 knd) (wR cI (q 9) (q 10) 6 n_f) (wTown cI q tb tp tr n_f sec brd rms) [((q 8), .inr (5, [.int tb, .int tp, .int tr, .ref (q 9), .ref (q 11), .ref (q 13), .ref (q 15)])), ((q 11), .inr (0, [.ref (q 12)])), ((q 12), .inl (cI, 6, .inl sec)), ((q 13), .inr (0, [.ref (q 14)])), ((q 14), .inl (cI, 36, .inl brd)), ((q 15), .inr (0, [.ref (q 16)])), ((q 16), .inl (cI, 8, .inl rms))] [1, 2] [0, 3, 4, 5, 6, 7, 8] [0, 7, 8, 1, 2, 3, 4, 5, 6] [q 9, q 10] ∧ kNd [1, 2] [0, 3, 4, 5, 6, 7, 8] [0, 7, 8, 1, 2, 3, 4, 5, 6] = true := ⟨⟨rfl, rfl, ⟨rfl, rfl⟩, rfl⟩, by decide +kernel⟩
set_option maxRecDepth 100000 in
set_option maxHeartbeats 4000000 in
theorem k_X5_kindOf (l : Launch) (D : va_G) (cI cZ : ClassId) (adK adV : Nat → Nat) (q : Nat → Nat) (tb : Int32) (tp : Int32) (tr : Int32) (knd : Nat → Int32) (sec : Nat → Int32) (brd : Nat → Int32) (rms : Nat → Int32) (person : Int32) : CI l D (kTy cI cZ) (kG adK adV) yX5_kindOf (.code yX5_kindOf cX5_kindOf 2 (some .int) :: wsL_law) rm_X5_kindOf [.ref (q 8), .int person] (wTown cI q tb tp tr knd sec brd rms) (wTown cI q tb tp tr knd sec brd rms) (f_X5_kindOf knd person) := by
  refine CI.of (cc := cX5_kindOf) (maxL := 2) (ty := .int) (by decide) rfl (Nat.le_of_ble_eq_true rfl) rfl ?_
  intro p e s m args below meth c A Q ls hx hb hml hts0 hown hA hP hK hD hE hl hret
  have hts : ∀ w ∈ wsL_law, w.before args s = true := fun w h => hts0 w (List.mem_cons_of_mem _ h)
  clear hts0
  have hown : s.vm.findClass RX5 = some m.cls := hown
  have hl : lv_has ls 2 [(0, .ref (q 8)), (1, .int person)] := hl
  have hS : va_S A s.heap s.heap [] := va_S.rf
  revert hP hS
  suffices hgo : ∀ (H : Heap) (locs : List Loc), va_P D vwCl (wTown cI q tb tp tr knd sec brd rms) H → va_S A s.heap H locs → W p l e rm_X5_kindOf s m args below meth c H locs 0 0 Q (F0 m 0 ls []) from fun a b => hgo _ _ a b
  intro H locs hP hS
  refine lv_aload_n hx hb dX5_kindOf_0 rfl (lv_at hl 0 rfl) ?_
  refine va_get (D := D) (ci := 5) (v := .ref (q 9)) (C := RX5) (T := TX5) (N := 7) hx hb hts inlX5 hown hK hP 0 rfl rfl 3 (by decide) (kw hts kin_3 14 rfl) (fun _ h9 => h9) rfl dX5_kindOf_1 ?_
  refine lv_iload_n hx hb dX5_kindOf_4 rfl (lv_at hl 1 rfl) ?_
  refine kvi (As := [.int person]) (rest := []) (q0 := 0) (ci := 0) ⟨hx, hb, hml, hown, hts⟩ hP hK hD hS hA hE (k_X0_at l D cI cZ adK adV (q 9) (q 10) 6 knd person (by decide)) (kcv hts kM_X0_at (kin_16 _ (List.mem_of_getElem? (i := 4) rfl)) ⟨rfl, rfl⟩ ⟨Nat.le_of_ble_eq_true rfl, Nat.le_of_ble_eq_true rfl⟩) kBl_G kOk_G (wTown cI q tb tp tr knd sec brd rms) (cut_town_row_1_2 cI q tb tp tr knd sec brd rms knd).1 (cut_town_row_1_2 cI q tb tp tr knd sec brd rms knd).2 rfl rfl rfl rfl hl.1 rfl (Nat.le_of_ble_eq_true rfl) dX5_kindOf_5 (fun H locs hP hD hS => ?_)
  have hf : (f_X5_kindOf knd person) = (f_X0_at 6 knd person) := rfl
  rw [hf] at hret
  exact hret _ _ _ _ hP hS dX5_kindOf_8
def f_X5_secretOf (sec : Nat → Int32) (person : Int32) : Int32 := (f_X0_at 6 sec person)
abbrev rm_X5_secretOf : Room := { frames := 1, cells := 0, slots := 0, locals := 21 }
set_option maxRecDepth 100000 in
theorem cut_town_row_3_4 (cI : ClassId) (q : Nat → Nat) (tb : Int32) (tp : Int32) (tr : Int32) (knd : Nat → Int32) (sec : Nat → Int32) (brd : Nat → Int32) (rms : Nat → Int32) (n_f : Nat → Int32) : kCut (wTown cI q tb tp tr knd sec brd rms) (wR cI (q 11) (q 12) 6 sec) (wR cI (q 11) (q 12) 6 n_f) (wTown cI q tb tp tr knd n_f brd rms) [((q 8), .inr (5, [.int tb, .int tp, .int tr, .ref (q 9), .ref (q 11), .ref (q 13), .ref (q 15)])), ((q 9), .inr (0, [.ref (q 10)])), ((q 10), .inl (cI, 6, .inl knd)), ((q 13), .inr (0, [.ref (q 14)])), ((q 14), .inl (cI, 36, .inl brd)), ((q 15), .inr (0, [.ref (q 16)])), ((q 16), .inl (cI, 8, .inl rms))] [3, 4] [0, 1, 2, 5, 6, 7, 8] [0, 1, 2, 7, 8, 3, 4, 5, 6] [q 11, q 12] ∧ kNd [3, 4] [0, 1, 2, 5, 6, 7, 8] [0, 1, 2, 7, 8, 3, 4, 5, 6] = true := ⟨⟨rfl, rfl, ⟨rfl, rfl⟩, rfl⟩, by decide +kernel⟩
set_option maxRecDepth 100000 in
set_option maxHeartbeats 4000000 in
theorem k_X5_secretOf (l : Launch) (D : va_G) (cI cZ : ClassId) (adK adV : Nat → Nat) (q : Nat → Nat) (tb : Int32) (tp : Int32) (tr : Int32) (knd : Nat → Int32) (sec : Nat → Int32) (brd : Nat → Int32) (rms : Nat → Int32) (person : Int32) : CI l D (kTy cI cZ) (kG adK adV) yX5_secretOf (.code yX5_secretOf cX5_secretOf 2 (some .int) :: wsL_law) rm_X5_secretOf [.ref (q 8), .int person] (wTown cI q tb tp tr knd sec brd rms) (wTown cI q tb tp tr knd sec brd rms) (f_X5_secretOf sec person) := by
  refine CI.of (cc := cX5_secretOf) (maxL := 2) (ty := .int) (by decide) rfl (Nat.le_of_ble_eq_true rfl) rfl ?_
  intro p e s m args below meth c A Q ls hx hb hml hts0 hown hA hP hK hD hE hl hret
  have hts : ∀ w ∈ wsL_law, w.before args s = true := fun w h => hts0 w (List.mem_cons_of_mem _ h)
  clear hts0
  have hown : s.vm.findClass RX5 = some m.cls := hown
  have hl : lv_has ls 2 [(0, .ref (q 8)), (1, .int person)] := hl
  have hS : va_S A s.heap s.heap [] := va_S.rf
  revert hP hS
  suffices hgo : ∀ (H : Heap) (locs : List Loc), va_P D vwCl (wTown cI q tb tp tr knd sec brd rms) H → va_S A s.heap H locs → W p l e rm_X5_secretOf s m args below meth c H locs 0 0 Q (F0 m 0 ls []) from fun a b => hgo _ _ a b
  intro H locs hP hS
  refine lv_aload_n hx hb dX5_secretOf_0 rfl (lv_at hl 0 rfl) ?_
  refine va_get (D := D) (ci := 5) (v := .ref (q 11)) (C := RX5) (T := TX5) (N := 7) hx hb hts inlX5 hown hK hP 0 rfl rfl 4 (by decide) (kw hts kin_3 15 rfl) (fun _ h9 => h9) rfl dX5_secretOf_1 ?_
  refine lv_iload_n hx hb dX5_secretOf_4 rfl (lv_at hl 1 rfl) ?_
  refine kvi (As := [.int person]) (rest := []) (q0 := 0) (ci := 0) ⟨hx, hb, hml, hown, hts⟩ hP hK hD hS hA hE (k_X0_at l D cI cZ adK adV (q 11) (q 12) 6 sec person (by decide)) (kcv hts kM_X0_at (kin_16 _ (List.mem_of_getElem? (i := 4) rfl)) ⟨rfl, rfl⟩ ⟨Nat.le_of_ble_eq_true rfl, Nat.le_of_ble_eq_true rfl⟩) kBl_G kOk_G (wTown cI q tb tp tr knd sec brd rms) (cut_town_row_3_4 cI q tb tp tr knd sec brd rms sec).1 (cut_town_row_3_4 cI q tb tp tr knd sec brd rms sec).2 rfl rfl rfl rfl hl.1 rfl (Nat.le_of_ble_eq_true rfl) dX5_secretOf_5 (fun H locs hP hD hS => ?_)
  have hf : (f_X5_secretOf sec person) = (f_X0_at 6 sec person) := rfl
  rw [hf] at hret
  exact hret _ _ _ _ hP hS dX5_secretOf_8
def f_X5_toldBeard (brd : Nat → Int32) (person : Int32) (strip : Int32) : Int32 := (f_X0_at 36 brd ((person * 6) + strip))
abbrev rm_X5_toldBeard : Room := { frames := 1, cells := 0, slots := 0, locals := 21 }
set_option maxRecDepth 100000 in
theorem cut_town_row_5_6 (cI : ClassId) (q : Nat → Nat) (tb : Int32) (tp : Int32) (tr : Int32) (knd : Nat → Int32) (sec : Nat → Int32) (brd : Nat → Int32) (rms : Nat → Int32) (n_f : Nat → Int32) : kCut (wTown cI q tb tp tr knd sec brd rms) (wR cI (q 13) (q 14) 36 brd) (wR cI (q 13) (q 14) 36 n_f) (wTown cI q tb tp tr knd sec n_f rms) [((q 8), .inr (5, [.int tb, .int tp, .int tr, .ref (q 9), .ref (q 11), .ref (q 13), .ref (q 15)])), ((q 9), .inr (0, [.ref (q 10)])), ((q 10), .inl (cI, 6, .inl knd)), ((q 11), .inr (0, [.ref (q 12)])), ((q 12), .inl (cI, 6, .inl sec)), ((q 15), .inr (0, [.ref (q 16)])), ((q 16), .inl (cI, 8, .inl rms))] [5, 6] [0, 1, 2, 3, 4, 7, 8] [0, 1, 2, 3, 4, 7, 8, 5, 6] [q 13, q 14] ∧ kNd [5, 6] [0, 1, 2, 3, 4, 7, 8] [0, 1, 2, 3, 4, 7, 8, 5, 6] = true := ⟨⟨rfl, rfl, ⟨rfl, rfl⟩, rfl⟩, by decide +kernel⟩
set_option maxRecDepth 100000 in
set_option maxHeartbeats 4000000 in
theorem k_X5_toldBeard (l : Launch) (D : va_G) (cI cZ : ClassId) (adK adV : Nat → Nat) (q : Nat → Nat) (tb : Int32) (tp : Int32) (tr : Int32) (knd : Nat → Int32) (sec : Nat → Int32) (brd : Nat → Int32) (rms : Nat → Int32) (person : Int32) (strip : Int32) : CI l D (kTy cI cZ) (kG adK adV) yX5_toldBeard (.code yX5_toldBeard cX5_toldBeard 3 (some .int) :: wsL_law) rm_X5_toldBeard [.ref (q 8), .int person, .int strip] (wTown cI q tb tp tr knd sec brd rms) (wTown cI q tb tp tr knd sec brd rms) (f_X5_toldBeard brd person strip) := by
  refine CI.of (cc := cX5_toldBeard) (maxL := 3) (ty := .int) (by decide) rfl (Nat.le_of_ble_eq_true rfl) rfl ?_
  intro p e s m args below meth c A Q ls hx hb hml hts0 hown hA hP hK hD hE hl hret
  have hts : ∀ w ∈ wsL_law, w.before args s = true := fun w h => hts0 w (List.mem_cons_of_mem _ h)
  clear hts0
  have hown : s.vm.findClass RX5 = some m.cls := hown
  have hl : lv_has ls 3 [(0, .ref (q 8)), (1, .int person), (2, .int strip)] := hl
  have hS : va_S A s.heap s.heap [] := va_S.rf
  revert hP hS
  suffices hgo : ∀ (H : Heap) (locs : List Loc), va_P D vwCl (wTown cI q tb tp tr knd sec brd rms) H → va_S A s.heap H locs → W p l e rm_X5_toldBeard s m args below meth c H locs 0 0 Q (F0 m 0 ls []) from fun a b => hgo _ _ a b
  intro H locs hP hS
  refine lv_aload_n hx hb dX5_toldBeard_0 rfl (lv_at hl 0 rfl) ?_
  refine va_get (D := D) (ci := 5) (v := .ref (q 13)) (C := RX5) (T := TX5) (N := 7) hx hb hts inlX5 hown hK hP 0 rfl rfl 5 (by decide) (kw hts kin_3 16 rfl) (fun _ h9 => h9) rfl dX5_toldBeard_1 ?_
  refine lv_iload_n hx hb dX5_toldBeard_4 rfl (lv_at hl 1 rfl) ?_
  refine lv_bipush (v := 6) hx hb dX5_toldBeard_5 (by decide) ?_
  refine lv_imul hx hb dX5_toldBeard_7 ?_
  refine lv_iload_n hx hb dX5_toldBeard_8 rfl (lv_at hl 2 rfl) ?_
  refine lv_iadd hx hb dX5_toldBeard_9 ?_
  refine kvi (As := [.int ((person * 6) + strip)]) (rest := []) (q0 := 0) (ci := 0) ⟨hx, hb, hml, hown, hts⟩ hP hK hD hS hA hE (k_X0_at l D cI cZ adK adV (q 13) (q 14) 36 brd ((person * 6) + strip) (by decide)) (kcv hts kM_X0_at (kin_16 _ (List.mem_of_getElem? (i := 4) rfl)) ⟨rfl, rfl⟩ ⟨Nat.le_of_ble_eq_true rfl, Nat.le_of_ble_eq_true rfl⟩) kBl_G kOk_G (wTown cI q tb tp tr knd sec brd rms) (cut_town_row_5_6 cI q tb tp tr knd sec brd rms brd).1 (cut_town_row_5_6 cI q tb tp tr knd sec brd rms brd).2 rfl rfl rfl rfl hl.1 rfl (Nat.le_of_ble_eq_true rfl) dX5_toldBeard_10 (fun H locs hP hD hS => ?_)
  have hf : (f_X5_toldBeard brd person strip) = (f_X0_at 36 brd ((person * 6) + strip)) := rfl
  rw [hf] at hret
  exact hret _ _ _ _ hP hS dX5_toldBeard_13
def f_X5_rumourNumber (rms : Nat → Int32) (rumour : Int32) : Int32 := (f_X0_at 8 rms rumour)
abbrev rm_X5_rumourNumber : Room := { frames := 1, cells := 0, slots := 0, locals := 21 }
set_option maxRecDepth 100000 in
theorem cut_town_row_7_8 (cI : ClassId) (q : Nat → Nat) (tb : Int32) (tp : Int32) (tr : Int32) (knd : Nat → Int32) (sec : Nat → Int32) (brd : Nat → Int32) (rms : Nat → Int32) (n_f : Nat → Int32) : kCut (wTown cI q tb tp tr knd sec brd rms) (wR cI (q 15) (q 16) 8 rms) (wR cI (q 15) (q 16) 8 n_f) (wTown cI q tb tp tr knd sec brd n_f) [((q 8), .inr (5, [.int tb, .int tp, .int tr, .ref (q 9), .ref (q 11), .ref (q 13), .ref (q 15)])), ((q 9), .inr (0, [.ref (q 10)])), ((q 10), .inl (cI, 6, .inl knd)), ((q 11), .inr (0, [.ref (q 12)])), ((q 12), .inl (cI, 6, .inl sec)), ((q 13), .inr (0, [.ref (q 14)])), ((q 14), .inl (cI, 36, .inl brd))] [7, 8] [0, 1, 2, 3, 4, 5, 6] [0, 1, 2, 3, 4, 5, 6, 7, 8] [q 15, q 16] ∧ kNd [7, 8] [0, 1, 2, 3, 4, 5, 6] [0, 1, 2, 3, 4, 5, 6, 7, 8] = true := ⟨⟨rfl, rfl, ⟨rfl, rfl⟩, rfl⟩, by decide +kernel⟩
set_option maxRecDepth 100000 in
set_option maxHeartbeats 4000000 in
theorem k_X5_rumourNumber (l : Launch) (D : va_G) (cI cZ : ClassId) (adK adV : Nat → Nat) (q : Nat → Nat) (tb : Int32) (tp : Int32) (tr : Int32) (knd : Nat → Int32) (sec : Nat → Int32) (brd : Nat → Int32) (rms : Nat → Int32) (rumour : Int32) : CI l D (kTy cI cZ) (kG adK adV) yX5_rumourNumber (.code yX5_rumourNumber cX5_rumourNumber 2 (some .int) :: wsL_law) rm_X5_rumourNumber [.ref (q 8), .int rumour] (wTown cI q tb tp tr knd sec brd rms) (wTown cI q tb tp tr knd sec brd rms) (f_X5_rumourNumber rms rumour) := by
  refine CI.of (cc := cX5_rumourNumber) (maxL := 2) (ty := .int) (by decide) rfl (Nat.le_of_ble_eq_true rfl) rfl ?_
  intro p e s m args below meth c A Q ls hx hb hml hts0 hown hA hP hK hD hE hl hret
  have hts : ∀ w ∈ wsL_law, w.before args s = true := fun w h => hts0 w (List.mem_cons_of_mem _ h)
  clear hts0
  have hown : s.vm.findClass RX5 = some m.cls := hown
  have hl : lv_has ls 2 [(0, .ref (q 8)), (1, .int rumour)] := hl
  have hS : va_S A s.heap s.heap [] := va_S.rf
  revert hP hS
  suffices hgo : ∀ (H : Heap) (locs : List Loc), va_P D vwCl (wTown cI q tb tp tr knd sec brd rms) H → va_S A s.heap H locs → W p l e rm_X5_rumourNumber s m args below meth c H locs 0 0 Q (F0 m 0 ls []) from fun a b => hgo _ _ a b
  intro H locs hP hS
  refine lv_aload_n hx hb dX5_rumourNumber_0 rfl (lv_at hl 0 rfl) ?_
  refine va_get (D := D) (ci := 5) (v := .ref (q 15)) (C := RX5) (T := TX5) (N := 7) hx hb hts inlX5 hown hK hP 0 rfl rfl 6 (by decide) (kw hts kin_3 17 rfl) (fun _ h9 => h9) rfl dX5_rumourNumber_1 ?_
  refine lv_iload_n hx hb dX5_rumourNumber_4 rfl (lv_at hl 1 rfl) ?_
  refine kvi (As := [.int rumour]) (rest := []) (q0 := 0) (ci := 0) ⟨hx, hb, hml, hown, hts⟩ hP hK hD hS hA hE (k_X0_at l D cI cZ adK adV (q 15) (q 16) 8 rms rumour (by decide)) (kcv hts kM_X0_at (kin_16 _ (List.mem_of_getElem? (i := 4) rfl)) ⟨rfl, rfl⟩ ⟨Nat.le_of_ble_eq_true rfl, Nat.le_of_ble_eq_true rfl⟩) kBl_G kOk_G (wTown cI q tb tp tr knd sec brd rms) (cut_town_row_7_8 cI q tb tp tr knd sec brd rms rms).1 (cut_town_row_7_8 cI q tb tp tr knd sec brd rms rms).2 rfl rfl rfl rfl hl.1 rfl (Nat.le_of_ble_eq_true rfl) dX5_rumourNumber_5 (fun H locs hP hD hS => ?_)
  have hf : (f_X5_rumourNumber rms rumour) = (f_X0_at 8 rms rumour) := rfl
  rw [hf] at hret
  exact hret _ _ _ _ hP hS dX5_rumourNumber_8
def f_X5_wouldTell (knd : Nat → Int32) (sec : Nat → Int32) (person : Int32) (strip : Int32) (beard : Int32) : Int32 := (f_X6_telling (f_X5_kindOf knd person) strip beard (((f_X5_secretOf sec person) >>> (strip &&& 31)) &&& 1))
abbrev rm_X5_wouldTell : Room := { frames := 2, cells := 0, slots := 0, locals := 42 }
set_option maxRecDepth 100000 in
theorem cut_town_town (cI : ClassId) (q : Nat → Nat) (tb : Int32) (tp : Int32) (tr : Int32) (knd : Nat → Int32) (sec : Nat → Int32) (brd : Nat → Int32) (rms : Nat → Int32) (n_tb : Int32) (n_tp : Int32) (n_tr : Int32) (n_knd : Nat → Int32) (n_sec : Nat → Int32) (n_brd : Nat → Int32) (n_rms : Nat → Int32) : kCut (wTown cI q tb tp tr knd sec brd rms) (wTown cI q tb tp tr knd sec brd rms) (wTown cI q n_tb n_tp n_tr n_knd n_sec n_brd n_rms) (wTown cI q n_tb n_tp n_tr n_knd n_sec n_brd n_rms) [] [0, 1, 2, 3, 4, 5, 6, 7, 8] [] [0, 1, 2, 3, 4, 5, 6, 7, 8] [q 8, q 9, q 10, q 11, q 12, q 13, q 14, q 15, q 16] ∧ kNd [0, 1, 2, 3, 4, 5, 6, 7, 8] [] [0, 1, 2, 3, 4, 5, 6, 7, 8] = true := ⟨⟨rfl, rfl, ⟨rfl, rfl⟩, rfl⟩, by decide +kernel⟩
set_option maxRecDepth 100000 in
set_option maxHeartbeats 4000000 in
theorem k_X5_wouldTell (l : Launch) (D : va_G) (cI cZ : ClassId) (adK adV : Nat → Nat) (q : Nat → Nat) (tb : Int32) (tp : Int32) (tr : Int32) (knd : Nat → Int32) (sec : Nat → Int32) (brd : Nat → Int32) (rms : Nat → Int32) (person : Int32) (strip : Int32) (beard : Int32) : CI l D (kTy cI cZ) (kG adK adV) yX5_wouldTell (.code yX5_wouldTell cX5_wouldTell 4 (some .int) :: wsL_law) rm_X5_wouldTell [.ref (q 8), .int person, .int strip, .int beard] (wTown cI q tb tp tr knd sec brd rms) (wTown cI q tb tp tr knd sec brd rms) (f_X5_wouldTell knd sec person strip beard) := by
  refine CI.of (cc := cX5_wouldTell) (maxL := 4) (ty := .int) (by decide) rfl (Nat.le_of_ble_eq_true rfl) rfl ?_
  intro p e s m args below meth c A Q ls hx hb hml hts0 hown hA hP hK hD hE hl hret
  have hts : ∀ w ∈ wsL_law, w.before args s = true := fun w h => hts0 w (List.mem_cons_of_mem _ h)
  clear hts0
  have hown : s.vm.findClass RX5 = some m.cls := hown
  have hl : lv_has ls 4 [(0, .ref (q 8)), (1, .int person), (2, .int strip), (3, .int beard)] := hl
  have hS : va_S A s.heap s.heap [] := va_S.rf
  revert hP hS
  suffices hgo : ∀ (H : Heap) (locs : List Loc), va_P D vwCl (wTown cI q tb tp tr knd sec brd rms) H → va_S A s.heap H locs → W p l e rm_X5_wouldTell s m args below meth c H locs 0 0 Q (F0 m 0 ls []) from fun a b => hgo _ _ a b
  intro H locs hP hS
  refine lv_aload_n hx hb dX5_wouldTell_0 rfl (lv_at hl 0 rfl) ?_
  refine lv_iload_n hx hb dX5_wouldTell_1 rfl (lv_at hl 1 rfl) ?_
  refine kvi (As := [.int person]) (rest := []) (q0 := 0) (ci := 5) ⟨hx, hb, hml, hown, hts⟩ hP hK hD hS hA hE (k_X5_kindOf l D cI cZ adK adV q tb tp tr knd sec brd rms person) (kcv hts kM_X5_kindOf (kin_22 _ (List.mem_of_getElem? (i := 11) rfl)) ⟨rfl, rfl⟩ ⟨Nat.le_of_ble_eq_true rfl, Nat.le_of_ble_eq_true rfl⟩) kBl_G kOk_G (wTown cI q tb tp tr knd sec brd rms) (cut_town_town cI q tb tp tr knd sec brd rms tb tp tr knd sec brd rms).1 (cut_town_town cI q tb tp tr knd sec brd rms tb tp tr knd sec brd rms).2 rfl rfl rfl rfl hl.1 rfl (Nat.le_of_ble_eq_true rfl) dX5_wouldTell_2 (fun H locs hP hD hS => ?_)
  refine lv_iload_n hx hb dX5_wouldTell_5 rfl (lv_at hl 2 rfl) ?_
  refine lv_iload_n hx hb dX5_wouldTell_6 rfl (lv_at hl 3 rfl) ?_
  refine lv_aload_n hx hb dX5_wouldTell_7 rfl (lv_at hl 0 rfl) ?_
  refine lv_iload_n hx hb dX5_wouldTell_8 rfl (lv_at hl 1 rfl) ?_
  refine kvi (As := [.int person]) (rest := [.int beard, .int strip, .int (f_X5_kindOf knd person)]) (q0 := 0) (ci := 5) ⟨hx, hb, hml, hown, hts⟩ hP hK hD hS hA hE (k_X5_secretOf l D cI cZ adK adV q tb tp tr knd sec brd rms person) (kcv hts kM_X5_secretOf (kin_22 _ (List.mem_of_getElem? (i := 12) rfl)) ⟨rfl, rfl⟩ ⟨Nat.le_of_ble_eq_true rfl, Nat.le_of_ble_eq_true rfl⟩) kBl_G kOk_G (wTown cI q tb tp tr knd sec brd rms) (cut_town_town cI q tb tp tr knd sec brd rms tb tp tr knd sec brd rms).1 (cut_town_town cI q tb tp tr knd sec brd rms tb tp tr knd sec brd rms).2 rfl rfl rfl rfl hl.1 rfl (Nat.le_of_ble_eq_true rfl) dX5_wouldTell_9 (fun H locs hP hD hS => ?_)
  refine lv_iload_n hx hb dX5_wouldTell_12 rfl (lv_at hl 2 rfl) ?_
  refine lv_ishr hx hb dX5_wouldTell_13 ?_
  refine lv_iconst (v := 1) hx hb dX5_wouldTell_14 (by decide) ?_
  refine lv_iand hx hb dX5_wouldTell_15 ?_
  refine kni (As := [.int (f_X5_kindOf knd person), .int strip, .int beard, .int (((f_X5_secretOf sec person) >>> (strip &&& 31)) &&& 1)]) (rest := []) ⟨hx, hb, hml, hown, hts⟩ hP hK hD hS hA hE (k_X6_telling l D cI cZ adK adV (f_X5_kindOf knd person) strip beard (((f_X5_secretOf sec person) >>> (strip &&& 31)) &&& 1)) (kcn hts kM_X6_telling hE.1.1 ⟨rfl, rfl⟩ ⟨Nat.le_of_ble_eq_true rfl, Nat.le_of_ble_eq_true rfl⟩) kBl_G kOk_G rfl hl.1 rfl (Nat.le_of_ble_eq_true rfl) dX5_wouldTell_16 (fun H locs hP hD hS => ?_)
  have hf : (f_X5_wouldTell knd sec person strip beard) = (f_X6_telling (f_X5_kindOf knd person) strip beard (((f_X5_secretOf sec person) >>> (strip &&& 31)) &&& 1)) := rfl
  rw [hf] at hret
  exact hret _ _ _ _ hP hS dX5_wouldTell_19
def v_X5_fitting_24_0 (rms : Nat → Int32) (known : Int32) (parts_ : Int32) (i : Nat) (x5_3 : Int32) : Int32 := if (((f_X5_rumourNumber rms (nI i)) ^^^ parts_) &&& known) = 0 then (x5_3 ||| (1 <<< ((nI i) &&& 31))) else x5_3
def nx_X5_fitting_5 (rms : Nat → Int32) (known : Int32) (parts_ : Int32) (i : Nat) (x5_3 : Int32) : Int32 := (v_X5_fitting_24_0 rms known parts_ i x5_3)
def x_X5_fitting_5 (tr : Int32) (rms : Nat → Int32) (known : Int32) (parts_ : Int32) : Int32 := lp (fun iz z => nx_X5_fitting_5 rms known parts_ iz z) 0 tr.toNatClampNeg
def f_X5_fitting (tr : Int32) (rms : Nat → Int32) (known : Int32) (parts_ : Int32) : Int32 := (x_X5_fitting_5 tr rms known parts_)
abbrev rm_X5_fitting : Room := { frames := 2, cells := 0, slots := 0, locals := 42 }
set_option maxRecDepth 100000 in
set_option maxHeartbeats 4000000 in
theorem k_X5_fitting (l : Launch) (D : va_G) (cI cZ : ClassId) (adK adV : Nat → Nat) (q : Nat → Nat) (tb : Int32) (tp : Int32) (tr : Int32) (knd : Nat → Int32) (sec : Nat → Int32) (brd : Nat → Int32) (rms : Nat → Int32) (known : Int32) (parts_ : Int32) : CI l D (kTy cI cZ) (kG adK adV) yX5_fitting (.code yX5_fitting cX5_fitting 5 (some .int) :: wsL_law) rm_X5_fitting [.ref (q 8), .int known, .int parts_] (wTown cI q tb tp tr knd sec brd rms) (wTown cI q tb tp tr knd sec brd rms) (f_X5_fitting tr rms known parts_) := by
  refine CI.of (cc := cX5_fitting) (maxL := 5) (ty := .int) (by decide) rfl (Nat.le_of_ble_eq_true rfl) rfl ?_
  intro p e s m args below meth c A Q ls hx hb hml hts0 hown hA hP hK hD hE hl hret
  have hts : ∀ w ∈ wsL_law, w.before args s = true := fun w h => hts0 w (List.mem_cons_of_mem _ h)
  clear hts0
  have hown : s.vm.findClass RX5 = some m.cls := hown
  have hl : lv_has ls 5 [(0, .ref (q 8)), (1, .int known), (2, .int parts_)] := hl
  have hS : va_S A s.heap s.heap [] := va_S.rf
  revert hP hS
  suffices hgo : ∀ (H : Heap) (locs : List Loc), va_P D vwCl (wTown cI q tb tp tr knd sec brd rms) H → va_S A s.heap H locs → W p l e rm_X5_fitting s m args below meth c H locs 0 0 Q (F0 m 0 ls []) from fun a b => hgo _ _ a b
  intro H locs hP hS
  refine lv_iconst (v := 0) hx hb dX5_fitting_0 (by decide) ?_
  refine lv_istore_n (lv' := [(3, .int 0), (0, .ref (q 8)), (1, .int known), (2, .int parts_)]) hx hb dX5_fitting_1 rfl hl (by decide) rfl (fun ls hl => ?_)
  refine lv_iconst (v := 0) hx hb dX5_fitting_2 (by decide) ?_
  refine lv_istore (lv' := [(4, .int 0), (3, .int 0), (0, .ref (q 8)), (1, .int known), (2, .int parts_)]) hx hb dX5_fitting_3 hl (by decide) rfl (fun ls hl => ?_)
  have lp5 : ∀ (k5 i : Nat) (x5_3 : Int32), i + k5 = tr.toNatClampNeg → x5_3 = lp (fun iz z => nx_X5_fitting_5 rms known parts_ iz z) 0 i → ∀ (H : Heap) (locs : List Loc) (ls : Array Slot), va_P D vwCl (wTown cI q tb tp tr knd sec brd rms) H → va_D A (wTown cI q tb tp tr knd sec brd rms) → va_S A s.heap H locs → lv_has ls 5 [(0, .ref (q 8)), (1, .int known), (2, .int parts_), (3, .int x5_3), (4, .int (nI i))] → W p l e rm_X5_fitting s m args below meth c H locs 0 0 Q (F0 m 5 ls []) := by
    intro k5
    induction k5 with
    | zero =>
      intro i x5_3 hi5 ea5 H locs ls hP hD hS hl
      have hi5 : tr.toNatClampNeg = i := by omega
      subst hi5
      have ea5 : x5_3 = (x_X5_fitting_5 tr rms known parts_) := ea5
      subst ea5
      refine lv_iload hx hb dX5_fitting_5 (lv_at hl 4 rfl) ?_
      refine lv_aload_n hx hb dX5_fitting_7 rfl (lv_at hl 0 rfl) ?_
      refine va_get (D := D) (ci := 5) (v := .int tr) (C := RX5) (T := TX5) (N := 7) hx hb hts inlX5 hown hK hP 0 rfl rfl 2 (by decide) (kw hts kin_15 4 rfl) (fun _ h9 => h9) rfl dX5_fitting_8 ?_
      refine lv_icmp_ge (tgt := 40) hx hb dX5_fitting_11 (by decide) (fun _ => ?_) (fun c_11 => absurd (kle_clamp _) c_11)
      refine lv_iload_n hx hb dX5_fitting_40 rfl (lv_at hl 3 rfl) ?_
      have hf : (f_X5_fitting tr rms known parts_) = (x_X5_fitting_5 tr rms known parts_) := rfl
      rw [hf] at hret
      exact hret _ _ _ _ hP hS dX5_fitting_41
    | succ k5 ih5 =>
      intro i x5_3 hi5 ea5 H locs ls hP hD hS hl
      have hlt5 : i < tr.toNatClampNeg := by omega
      refine lv_iload hx hb dX5_fitting_5 (lv_at hl 4 rfl) ?_
      refine lv_aload_n hx hb dX5_fitting_7 rfl (lv_at hl 0 rfl) ?_
      refine va_get (D := D) (ci := 5) (v := .int tr) (C := RX5) (T := TX5) (N := 7) hx hb hts inlX5 hown hK hP 0 rfl rfl 2 (by decide) (kw hts kin_15 4 rfl) (fun _ h9 => h9) rfl dX5_fitting_8 ?_
      refine lv_icmp_ge (tgt := 40) hx hb dX5_fitting_11 (by decide) (fun c_11 => absurd c_11 (klt_clamp hlt5)) (fun _ => ?_)
      refine lv_aload_n hx hb dX5_fitting_14 rfl (lv_at hl 0 rfl) ?_
      refine lv_iload hx hb dX5_fitting_15 (lv_at hl 4 rfl) ?_
      refine kvi (As := [.int (nI i)]) (rest := []) (q0 := 0) (ci := 5) ⟨hx, hb, hml, hown, hts⟩ hP hK hD hS hA hE (k_X5_rumourNumber l D cI cZ adK adV q tb tp tr knd sec brd rms (nI i)) (kcv hts kM_X5_rumourNumber (kin_21 _ (List.mem_of_getElem? (i := 3) rfl)) ⟨rfl, rfl⟩ ⟨Nat.le_of_ble_eq_true rfl, Nat.le_of_ble_eq_true rfl⟩) kBl_G kOk_G (wTown cI q tb tp tr knd sec brd rms) (cut_town_town cI q tb tp tr knd sec brd rms tb tp tr knd sec brd rms).1 (cut_town_town cI q tb tp tr knd sec brd rms tb tp tr knd sec brd rms).2 rfl rfl rfl rfl hl.1 rfl (Nat.le_of_ble_eq_true rfl) dX5_fitting_17 (fun H locs hP hD hS => ?_)
      refine lv_iload_n hx hb dX5_fitting_20 rfl (lv_at hl 2 rfl) ?_
      refine lv_ixor hx hb dX5_fitting_21 ?_
      refine lv_iload_n hx hb dX5_fitting_22 rfl (lv_at hl 1 rfl) ?_
      refine lv_iand hx hb dX5_fitting_23 ?_
      have J24 : ∀ (H : Heap) (locs : List Loc) (ls : Array Slot), va_P D vwCl (wTown cI q tb tp tr knd sec brd rms) H → va_D A (wTown cI q tb tp tr knd sec brd rms) → va_S A s.heap H locs → lv_has ls 5 [(0, .ref (q 8)), (1, .int known), (2, .int parts_), (3, .int (v_X5_fitting_24_0 rms known parts_ i x5_3)), (4, .int (nI i))] → W p l e rm_X5_fitting s m args below meth c H locs 0 0 Q (F0 m 34 ls []) := by
        intro H locs ls hP hD hS hl
        refine lv_iinc (v := (nI (i + 1))) (lv' := [(4, .int (nI (i + 1))), (0, .ref (q 8)), (1, .int known), (2, .int parts_), (3, .int (v_X5_fitting_24_0 rms known parts_ i x5_3))]) hx hb dX5_fitting_34 hl (k := 4) rfl (nI_1 i) (by decide) rfl (fun ls hl => ?_)
        refine lv_goto (tgt := 5) hx hb dX5_fitting_37 (by decide) ?_
        have hb5 : nx_X5_fitting_5 rms known parts_ i x5_3 = (v_X5_fitting_24_0 rms known parts_ i x5_3) := rfl
        have hs5 : (lp (fun iz z => nx_X5_fitting_5 rms known parts_ iz z) 0 (i + 1) : Int32) = nx_X5_fitting_5 rms known parts_ i (lp (fun iz z => nx_X5_fitting_5 rms known parts_ iz z) 0 i : Int32) := lp_succ _ _ _
        rw [← ea5] at hs5
        exact ih5 (i + 1) (v_X5_fitting_24_0 rms known parts_ i x5_3) (by omega) (hb5.symm.trans hs5.symm) _ _ _ hP hD hS (lv_sub hl [1, 2, 3, 4, 0] rfl)
      refine lv_if_ne (tgt := 34) hx hb dX5_fitting_24 (by decide) (fun c_24 => ?_) (fun c_24 => ?_)
      · skip
        rw [show (v_X5_fitting_24_0 rms known parts_ i x5_3) = x5_3 from (if_neg c_24)] at J24
        exact J24 _ _ _ hP hD hS (lv_sub hl [0, 1, 2, 3, 4] rfl)
      · skip
        refine lv_iload_n hx hb dX5_fitting_27 rfl (lv_at hl 3 rfl) ?_
        refine lv_iconst (v := 1) hx hb dX5_fitting_28 (by decide) ?_
        refine lv_iload hx hb dX5_fitting_29 (lv_at hl 4 rfl) ?_
        refine lv_ishl hx hb dX5_fitting_31 ?_
        refine lv_ior hx hb dX5_fitting_32 ?_
        refine lv_istore_n (lv' := [(3, .int (x5_3 ||| (1 <<< ((nI i) &&& 31)))), (0, .ref (q 8)), (1, .int known), (2, .int parts_), (4, .int (nI i))]) hx hb dX5_fitting_33 rfl hl (by decide) rfl (fun ls hl => ?_)
        rw [show (v_X5_fitting_24_0 rms known parts_ i x5_3) = (x5_3 ||| (1 <<< ((nI i) &&& 31))) from (if_pos c_24)] at J24
        exact J24 _ _ _ hP hD hS (lv_sub hl [1, 2, 3, 0, 4] rfl)
  exact lp5 tr.toNatClampNeg 0 0 (Nat.zero_add _) (lp_zero _ _).symm _ _ _ hP hD hS (lv_sub hl [2, 3, 4, 1, 0] rfl)
def v_X5_mostAlike_20_0 (rms : Nat → Int32) (some_ : Int32) (strip : Int32) (i : Nat) (x5_3 : Int32) : Int32 := if (f_X6_has some_ (nI i)) = 0 then x5_3 else (if (f_X6_has (f_X5_rumourNumber rms (nI i)) strip) = 0 then x5_3 else (x5_3 + 1))
def nx_X5_mostAlike_5 (rms : Nat → Int32) (some_ : Int32) (strip : Int32) (i : Nat) (x5_3 : Int32) : Int32 := (v_X5_mostAlike_20_0 rms some_ strip i x5_3)
def x_X5_mostAlike_5 (tr : Int32) (rms : Nat → Int32) (some_ : Int32) (strip : Int32) : Int32 := lp (fun iz z => nx_X5_mostAlike_5 rms some_ strip iz z) 0 tr.toNatClampNeg
def f_X5_mostAlike (tr : Int32) (rms : Nat → Int32) (some_ : Int32) (strip : Int32) : Int32 := (if (x_X5_mostAlike_5 tr rms some_ strip) < ((f_J6_bitCount_0f7a4 some_) - (x_X5_mostAlike_5 tr rms some_ strip)) then ((f_J6_bitCount_0f7a4 some_) - (x_X5_mostAlike_5 tr rms some_ strip)) else (x_X5_mostAlike_5 tr rms some_ strip))
abbrev rm_X5_mostAlike : Room := { frames := 2, cells := 0, slots := 0, locals := 42 }
set_option maxRecDepth 100000 in
set_option maxHeartbeats 4000000 in
theorem k_X5_mostAlike (l : Launch) (D : va_G) (cI cZ : ClassId) (adK adV : Nat → Nat) (q : Nat → Nat) (tb : Int32) (tp : Int32) (tr : Int32) (knd : Nat → Int32) (sec : Nat → Int32) (brd : Nat → Int32) (rms : Nat → Int32) (some_ : Int32) (strip : Int32) : CI l D (kTy cI cZ) (kG adK adV) yX5_mostAlike (.code yX5_mostAlike cX5_mostAlike 5 (some .int) :: wsL_law) rm_X5_mostAlike [.ref (q 8), .int some_, .int strip] (wTown cI q tb tp tr knd sec brd rms) (wTown cI q tb tp tr knd sec brd rms) (f_X5_mostAlike tr rms some_ strip) := by
  refine CI.of (cc := cX5_mostAlike) (maxL := 5) (ty := .int) (by decide) rfl (Nat.le_of_ble_eq_true rfl) rfl ?_
  intro p e s m args below meth c A Q ls hx hb hml hts0 hown hA hP hK hD hE hl hret
  have hts : ∀ w ∈ wsL_law, w.before args s = true := fun w h => hts0 w (List.mem_cons_of_mem _ h)
  clear hts0
  have hown : s.vm.findClass RX5 = some m.cls := hown
  have hl : lv_has ls 5 [(0, .ref (q 8)), (1, .int some_), (2, .int strip)] := hl
  have hS : va_S A s.heap s.heap [] := va_S.rf
  revert hP hS
  suffices hgo : ∀ (H : Heap) (locs : List Loc), va_P D vwCl (wTown cI q tb tp tr knd sec brd rms) H → va_S A s.heap H locs → W p l e rm_X5_mostAlike s m args below meth c H locs 0 0 Q (F0 m 0 ls []) from fun a b => hgo _ _ a b
  intro H locs hP hS
  refine lv_iconst (v := 0) hx hb dX5_mostAlike_0 (by decide) ?_
  refine lv_istore_n (lv' := [(3, .int 0), (0, .ref (q 8)), (1, .int some_), (2, .int strip)]) hx hb dX5_mostAlike_1 rfl hl (by decide) rfl (fun ls hl => ?_)
  refine lv_iconst (v := 0) hx hb dX5_mostAlike_2 (by decide) ?_
  refine lv_istore (lv' := [(4, .int 0), (3, .int 0), (0, .ref (q 8)), (1, .int some_), (2, .int strip)]) hx hb dX5_mostAlike_3 hl (by decide) rfl (fun ls hl => ?_)
  have lp5 : ∀ (k5 i : Nat) (x5_3 : Int32), i + k5 = tr.toNatClampNeg → x5_3 = lp (fun iz z => nx_X5_mostAlike_5 rms some_ strip iz z) 0 i → ∀ (H : Heap) (locs : List Loc) (ls : Array Slot), va_P D vwCl (wTown cI q tb tp tr knd sec brd rms) H → va_D A (wTown cI q tb tp tr knd sec brd rms) → va_S A s.heap H locs → lv_has ls 5 [(0, .ref (q 8)), (1, .int some_), (2, .int strip), (3, .int x5_3), (4, .int (nI i))] → W p l e rm_X5_mostAlike s m args below meth c H locs 0 0 Q (F0 m 5 ls []) := by
    intro k5
    induction k5 with
    | zero =>
      intro i x5_3 hi5 ea5 H locs ls hP hD hS hl
      have hi5 : tr.toNatClampNeg = i := by omega
      subst hi5
      have ea5 : x5_3 = (x_X5_mostAlike_5 tr rms some_ strip) := ea5
      subst ea5
      refine lv_iload hx hb dX5_mostAlike_5 (lv_at hl 4 rfl) ?_
      refine lv_aload_n hx hb dX5_mostAlike_7 rfl (lv_at hl 0 rfl) ?_
      refine va_get (D := D) (ci := 5) (v := .int tr) (C := RX5) (T := TX5) (N := 7) hx hb hts inlX5 hown hK hP 0 rfl rfl 2 (by decide) (kw hts kin_15 4 rfl) (fun _ h9 => h9) rfl dX5_mostAlike_8 ?_
      refine lv_icmp_ge (tgt := 45) hx hb dX5_mostAlike_11 (by decide) (fun _ => ?_) (fun c_11 => absurd (kle_clamp _) c_11)
      refine lv_iload_n hx hb dX5_mostAlike_45 rfl (lv_at hl 3 rfl) ?_
      refine lv_iload_n hx hb dX5_mostAlike_46 rfl (lv_at hl 1 rfl) ?_
      refine ksi (As := [.int some_]) (rest := [.int (x_X5_mostAlike_5 tr rms some_ strip)]) ⟨hx, hb, hml, hown, hts⟩ hP hK hD hS hA hE (k_J6_bitCount_0f7a4 l D cI cZ adK adV some_) (kcs hts kM_J6_bitCount_0f7a4 (kin_30 _ (List.mem_of_getElem? (i := 3) rfl)) ⟨rfl, rfl⟩ ⟨Nat.le_of_ble_eq_true rfl, Nat.le_of_ble_eq_true rfl⟩) kBl_G kOk_G rfl hl.1 rfl (Nat.le_of_ble_eq_true rfl) dX5_mostAlike_47 (fun H locs hP hD hS => ?_)
      refine lv_iload_n hx hb dX5_mostAlike_50 rfl (lv_at hl 3 rfl) ?_
      refine lv_isub hx hb dX5_mostAlike_51 ?_
      refine va_mmax hx hb (hml.trans hl.1.symm) hown (kw hts kin_15 2 rfl) (kw hts kin_3 3 rfl) (kw hts kin_3 4 rfl) (kw hts kin_3 5 rfl) (Nat.le_of_ble_eq_true rfl) (Nat.le_of_ble_eq_true rfl) (Nat.zero_le _) (Nat.zero_le _) dX5_mostAlike_52 ?_
      have hf : (f_X5_mostAlike tr rms some_ strip) = (if (x_X5_mostAlike_5 tr rms some_ strip) < ((f_J6_bitCount_0f7a4 some_) - (x_X5_mostAlike_5 tr rms some_ strip)) then ((f_J6_bitCount_0f7a4 some_) - (x_X5_mostAlike_5 tr rms some_ strip)) else (x_X5_mostAlike_5 tr rms some_ strip)) := rfl
      rw [hf] at hret
      exact hret _ _ _ _ hP hS dX5_mostAlike_55
    | succ k5 ih5 =>
      intro i x5_3 hi5 ea5 H locs ls hP hD hS hl
      have hlt5 : i < tr.toNatClampNeg := by omega
      refine lv_iload hx hb dX5_mostAlike_5 (lv_at hl 4 rfl) ?_
      refine lv_aload_n hx hb dX5_mostAlike_7 rfl (lv_at hl 0 rfl) ?_
      refine va_get (D := D) (ci := 5) (v := .int tr) (C := RX5) (T := TX5) (N := 7) hx hb hts inlX5 hown hK hP 0 rfl rfl 2 (by decide) (kw hts kin_15 4 rfl) (fun _ h9 => h9) rfl dX5_mostAlike_8 ?_
      refine lv_icmp_ge (tgt := 45) hx hb dX5_mostAlike_11 (by decide) (fun c_11 => absurd c_11 (klt_clamp hlt5)) (fun _ => ?_)
      refine lv_iload_n hx hb dX5_mostAlike_14 rfl (lv_at hl 1 rfl) ?_
      refine lv_iload hx hb dX5_mostAlike_15 (lv_at hl 4 rfl) ?_
      refine kni (As := [.int some_, .int (nI i)]) (rest := []) ⟨hx, hb, hml, hown, hts⟩ hP hK hD hS hA hE (k_X6_has l D cI cZ adK adV some_ (nI i)) (kcn hts kM_X6_has hE.1.2.1 ⟨rfl, rfl⟩ ⟨Nat.le_of_ble_eq_true rfl, Nat.le_of_ble_eq_true rfl⟩) kBl_G kOk_G rfl hl.1 rfl (Nat.le_of_ble_eq_true rfl) dX5_mostAlike_17 (fun H locs hP hD hS => ?_)
      have J20 : ∀ (H : Heap) (locs : List Loc) (ls : Array Slot), va_P D vwCl (wTown cI q tb tp tr knd sec brd rms) H → va_D A (wTown cI q tb tp tr knd sec brd rms) → va_S A s.heap H locs → lv_has ls 5 [(0, .ref (q 8)), (1, .int some_), (2, .int strip), (3, .int (v_X5_mostAlike_20_0 rms some_ strip i x5_3)), (4, .int (nI i))] → W p l e rm_X5_mostAlike s m args below meth c H locs 0 0 Q (F0 m 39 ls []) := by
        intro H locs ls hP hD hS hl
        refine lv_iinc (v := (nI (i + 1))) (lv' := [(4, .int (nI (i + 1))), (0, .ref (q 8)), (1, .int some_), (2, .int strip), (3, .int (v_X5_mostAlike_20_0 rms some_ strip i x5_3))]) hx hb dX5_mostAlike_39 hl (k := 4) rfl (nI_1 i) (by decide) rfl (fun ls hl => ?_)
        refine lv_goto (tgt := 5) hx hb dX5_mostAlike_42 (by decide) ?_
        have hb5 : nx_X5_mostAlike_5 rms some_ strip i x5_3 = (v_X5_mostAlike_20_0 rms some_ strip i x5_3) := rfl
        have hs5 : (lp (fun iz z => nx_X5_mostAlike_5 rms some_ strip iz z) 0 (i + 1) : Int32) = nx_X5_mostAlike_5 rms some_ strip i (lp (fun iz z => nx_X5_mostAlike_5 rms some_ strip iz z) 0 i : Int32) := lp_succ _ _ _
        rw [← ea5] at hs5
        exact ih5 (i + 1) (v_X5_mostAlike_20_0 rms some_ strip i x5_3) (by omega) (hb5.symm.trans hs5.symm) _ _ _ hP hD hS (lv_sub hl [1, 2, 3, 4, 0] rfl)
      refine lv_if_eq (tgt := 39) hx hb dX5_mostAlike_20 (by decide) (fun c_20 => ?_) (fun c_20 => ?_)
      · skip
        rw [show (v_X5_mostAlike_20_0 rms some_ strip i x5_3) = x5_3 from (if_pos c_20)] at J20
        exact J20 _ _ _ hP hD hS (lv_sub hl [0, 1, 2, 3, 4] rfl)
      · skip
        refine lv_aload_n hx hb dX5_mostAlike_23 rfl (lv_at hl 0 rfl) ?_
        refine lv_iload hx hb dX5_mostAlike_24 (lv_at hl 4 rfl) ?_
        refine kvi (As := [.int (nI i)]) (rest := []) (q0 := 0) (ci := 5) ⟨hx, hb, hml, hown, hts⟩ hP hK hD hS hA hE (k_X5_rumourNumber l D cI cZ adK adV q tb tp tr knd sec brd rms (nI i)) (kcv hts kM_X5_rumourNumber (kin_21 _ (List.mem_of_getElem? (i := 3) rfl)) ⟨rfl, rfl⟩ ⟨Nat.le_of_ble_eq_true rfl, Nat.le_of_ble_eq_true rfl⟩) kBl_G kOk_G (wTown cI q tb tp tr knd sec brd rms) (cut_town_town cI q tb tp tr knd sec brd rms tb tp tr knd sec brd rms).1 (cut_town_town cI q tb tp tr knd sec brd rms tb tp tr knd sec brd rms).2 rfl rfl rfl rfl hl.1 rfl (Nat.le_of_ble_eq_true rfl) dX5_mostAlike_26 (fun H locs hP hD hS => ?_)
        refine lv_iload_n hx hb dX5_mostAlike_29 rfl (lv_at hl 2 rfl) ?_
        refine kni (As := [.int (f_X5_rumourNumber rms (nI i)), .int strip]) (rest := []) ⟨hx, hb, hml, hown, hts⟩ hP hK hD hS hA hE (k_X6_has l D cI cZ adK adV (f_X5_rumourNumber rms (nI i)) strip) (kcn hts kM_X6_has hE.1.2.1 ⟨rfl, rfl⟩ ⟨Nat.le_of_ble_eq_true rfl, Nat.le_of_ble_eq_true rfl⟩) kBl_G kOk_G rfl hl.1 rfl (Nat.le_of_ble_eq_true rfl) dX5_mostAlike_30 (fun H locs hP hD hS => ?_)
        refine lv_if_eq (tgt := 39) hx hb dX5_mostAlike_33 (by decide) (fun c_33 => ?_) (fun c_33 => ?_)
        · skip
          rw [show (v_X5_mostAlike_20_0 rms some_ strip i x5_3) = x5_3 from ((if_neg c_20).trans (if_pos c_33))] at J20
          exact J20 _ _ _ hP hD hS (lv_sub hl [0, 1, 2, 3, 4] rfl)
        · skip
          refine lv_iinc (v := (x5_3 + 1)) (lv' := [(3, .int (x5_3 + 1)), (0, .ref (q 8)), (1, .int some_), (2, .int strip), (4, .int (nI i))]) hx hb dX5_mostAlike_36 hl (k := 3) rfl rfl (by decide) rfl (fun ls hl => ?_)
          rw [show (v_X5_mostAlike_20_0 rms some_ strip i x5_3) = (x5_3 + 1) from ((if_neg c_20).trans (if_neg c_33))] at J20
          exact J20 _ _ _ hP hD hS (lv_sub hl [1, 2, 3, 0, 4] rfl)
  exact lp5 tr.toNatClampNeg 0 0 (Nat.zero_add _) (lp_zero _ _).symm _ _ _ hP hD hS (lv_sub hl [2, 3, 4, 1, 0] rfl)
def f_X5_found (brd : Nat → Int32) (howMany : Int32) : Int32 × Int32 × Int32 × (Nat → Int32) := ((if 1 < (if howMany < 4 then howMany else 4) then (if howMany < 4 then howMany else 4) else 1), 0, 0, (f_X0_zero 36 brd))
abbrev rm_X5_found : Room := { frames := 1, cells := 0, slots := 0, locals := 21 }
set_option maxRecDepth 100000 in
set_option maxHeartbeats 4000000 in
theorem k_X5_found (l : Launch) (D : va_G) (cI cZ : ClassId) (adK adV : Nat → Nat) (q : Nat → Nat) (tb : Int32) (tp : Int32) (tr : Int32) (knd : Nat → Int32) (sec : Nat → Int32) (brd : Nat → Int32) (rms : Nat → Int32) (howMany : Int32) : CV l D (kTy cI cZ) (kG adK adV) yX5_found (.code yX5_found cX5_found 2 none :: wsL_law) rm_X5_found [.ref (q 8), .int howMany] (wTown cI q tb tp tr knd sec brd rms) (wTown cI q ((f_X5_found brd howMany).1) ((f_X5_found brd howMany).2.1) ((f_X5_found brd howMany).2.2.1) knd sec ((f_X5_found brd howMany).2.2.2) rms) := by
  refine CV.of (cc := cX5_found) (maxL := 2) (by decide) rfl (Nat.le_of_ble_eq_true rfl) ?_
  intro p e s m args below meth c A Q ls hx hb hml hts0 hown hA hP hK hD hE hl hret
  have hts : ∀ w ∈ wsL_law, w.before args s = true := fun w h => hts0 w (List.mem_cons_of_mem _ h)
  clear hts0
  have hown : s.vm.findClass RX5 = some m.cls := hown
  have hl : lv_has ls 2 [(0, .ref (q 8)), (1, .int howMany)] := hl
  have hS : va_S A s.heap s.heap [] := va_S.rf
  revert hP hS
  suffices hgo : ∀ (H : Heap) (locs : List Loc), va_P D vwCl (wTown cI q tb tp tr knd sec brd rms) H → va_S A s.heap H locs → W p l e rm_X5_found s m args below meth c H locs 0 0 Q (F0 m 0 ls []) from fun a b => hgo _ _ a b
  intro H locs hP hS
  refine lv_aload_n hx hb dX5_found_0 rfl (lv_at hl 0 rfl) ?_
  refine lv_iconst (v := 1) hx hb dX5_found_1 (by decide) ?_
  refine lv_iconst (v := 4) hx hb dX5_found_2 (by decide) ?_
  refine lv_iload_n hx hb dX5_found_3 rfl (lv_at hl 1 rfl) ?_
  refine va_mmin hx hb (hml.trans hl.1.symm) hown (kw hts kin_15 1 rfl) (kw hts kin_5 18 rfl) (kw hts kin_3 4 rfl) (kw hts kin_5 19 rfl) (Nat.le_of_ble_eq_true rfl) (Nat.le_of_ble_eq_true rfl) (Nat.zero_le _) (Nat.zero_le _) dX5_found_4 ?_
  refine va_mmax hx hb (hml.trans hl.1.symm) hown (kw hts kin_15 2 rfl) (kw hts kin_3 3 rfl) (kw hts kin_3 4 rfl) (kw hts kin_3 5 rfl) (Nat.le_of_ble_eq_true rfl) (Nat.le_of_ble_eq_true rfl) (Nat.zero_le _) (Nat.zero_le _) dX5_found_7 ?_
  refine va_put (D := D) (ci := 5) (v := .int (if 1 < (if howMany < 4 then howMany else 4) then (if howMany < 4 then howMany else 4) else 1)) (ty := .int) (C := RX5) (T := TX5) (N := 7) hx hb hts inlX5 tyX5 tyX5_ok nmX5 hown hK hP hD hS 0 rfl rfl 0 (by decide) (kw hts kin_3 12 rfl) (fun _ h9 => h9) rfl (by decide +kernel) rfl rfl (Nat.le_of_ble_eq_true rfl) dX5_found_10 (fun H locs hP hD hS => ?_)
  have hP : va_P D vwCl (wTown cI q (if 1 < (if howMany < 4 then howMany else 4) then (if howMany < 4 then howMany else 4) else 1) tp tr knd sec brd rms) H := hP
  have hD : va_D A (wTown cI q (if 1 < (if howMany < 4 then howMany else 4) then (if howMany < 4 then howMany else 4) else 1) tp tr knd sec brd rms) := hD
  refine lv_aload_n hx hb dX5_found_13 rfl (lv_at hl 0 rfl) ?_
  refine lv_iconst (v := 0) hx hb dX5_found_14 (by decide) ?_
  refine va_put (D := D) (ci := 5) (v := .int 0) (ty := .int) (C := RX5) (T := TX5) (N := 7) hx hb hts inlX5 tyX5 tyX5_ok nmX5 hown hK hP hD hS 0 rfl rfl 1 (by decide) (kw hts kin_15 3 rfl) (fun _ h9 => h9) rfl (by decide +kernel) rfl rfl (Nat.le_of_ble_eq_true rfl) dX5_found_15 (fun H locs hP hD hS => ?_)
  have hP : va_P D vwCl (wTown cI q (if 1 < (if howMany < 4 then howMany else 4) then (if howMany < 4 then howMany else 4) else 1) 0 tr knd sec brd rms) H := hP
  have hD : va_D A (wTown cI q (if 1 < (if howMany < 4 then howMany else 4) then (if howMany < 4 then howMany else 4) else 1) 0 tr knd sec brd rms) := hD
  refine lv_aload_n hx hb dX5_found_18 rfl (lv_at hl 0 rfl) ?_
  refine lv_iconst (v := 0) hx hb dX5_found_19 (by decide) ?_
  refine va_put (D := D) (ci := 5) (v := .int 0) (ty := .int) (C := RX5) (T := TX5) (N := 7) hx hb hts inlX5 tyX5 tyX5_ok nmX5 hown hK hP hD hS 0 rfl rfl 2 (by decide) (kw hts kin_15 4 rfl) (fun _ h9 => h9) rfl (by decide +kernel) rfl rfl (Nat.le_of_ble_eq_true rfl) dX5_found_20 (fun H locs hP hD hS => ?_)
  have hP : va_P D vwCl (wTown cI q (if 1 < (if howMany < 4 then howMany else 4) then (if howMany < 4 then howMany else 4) else 1) 0 0 knd sec brd rms) H := hP
  have hD : va_D A (wTown cI q (if 1 < (if howMany < 4 then howMany else 4) then (if howMany < 4 then howMany else 4) else 1) 0 0 knd sec brd rms) := hD
  refine lv_aload_n hx hb dX5_found_23 rfl (lv_at hl 0 rfl) ?_
  refine va_get (D := D) (ci := 5) (v := .ref (q 13)) (C := RX5) (T := TX5) (N := 7) hx hb hts inlX5 hown hK hP 0 rfl rfl 5 (by decide) (kw hts kin_3 16 rfl) (fun _ h9 => h9) rfl dX5_found_24 ?_
  refine kvv (As := []) (rest := []) (q0 := 0) (ci := 0) ⟨hx, hb, hml, hown, hts⟩ hP hK hD hS hA hE (k_X0_zero l D cI cZ adK adV (q 13) (q 14) 36 brd (by decide)) (kcv hts kM_X0_zero (kin_15 _ (List.mem_of_getElem? (i := 5) rfl)) ⟨rfl, rfl⟩ ⟨Nat.le_of_ble_eq_true rfl, Nat.le_of_ble_eq_true rfl⟩) kBl_G kOk_G (wTown cI q (if 1 < (if howMany < 4 then howMany else 4) then (if howMany < 4 then howMany else 4) else 1) 0 0 knd sec (f_X0_zero 36 brd) rms) (cut_town_row_5_6 cI q (if 1 < (if howMany < 4 then howMany else 4) then (if howMany < 4 then howMany else 4) else 1) 0 0 knd sec brd rms (f_X0_zero 36 brd)).1 (cut_town_row_5_6 cI q (if 1 < (if howMany < 4 then howMany else 4) then (if howMany < 4 then howMany else 4) else 1) 0 0 knd sec brd rms (f_X0_zero 36 brd)).2 rfl rfl rfl rfl hl.1 rfl (Nat.le_of_ble_eq_true rfl) dX5_found_27 (fun H locs hP hD hS => ?_)
  have hf : (f_X5_found brd howMany) = ((if 1 < (if howMany < 4 then howMany else 4) then (if howMany < 4 then howMany else 4) else 1), 0, 0, (f_X0_zero 36 brd)) := rfl
  rw [hf] at hret
  dsimp only at hret
  exact hret _ _ _ _ hP hS dX5_found_30
def f_X5_addPerson (tp : Int32) (knd : Nat → Int32) (sec : Nat → Int32) (kind : Int32) (secret : Int32) : Int32 × (Nat → Int32) × (Nat → Int32) := ((if (tp + 1) < 6 then (tp + 1) else 6), (f_X0_put 6 knd tp kind), (f_X0_put 6 sec tp secret))
abbrev rm_X5_addPerson : Room := { frames := 1, cells := 0, slots := 0, locals := 22 }
set_option maxRecDepth 100000 in
set_option maxHeartbeats 4000000 in
theorem k_X5_addPerson (l : Launch) (D : va_G) (cI cZ : ClassId) (adK adV : Nat → Nat) (q : Nat → Nat) (tb : Int32) (tp : Int32) (tr : Int32) (knd : Nat → Int32) (sec : Nat → Int32) (brd : Nat → Int32) (rms : Nat → Int32) (kind : Int32) (secret : Int32) : CV l D (kTy cI cZ) (kG adK adV) yX5_addPerson (.code yX5_addPerson cX5_addPerson 3 none :: wsL_law) rm_X5_addPerson [.ref (q 8), .int kind, .int secret] (wTown cI q tb tp tr knd sec brd rms) (wTown cI q tb ((f_X5_addPerson tp knd sec kind secret).1) tr ((f_X5_addPerson tp knd sec kind secret).2.1) ((f_X5_addPerson tp knd sec kind secret).2.2) brd rms) := by
  refine CV.of (cc := cX5_addPerson) (maxL := 3) (by decide) rfl (Nat.le_of_ble_eq_true rfl) ?_
  intro p e s m args below meth c A Q ls hx hb hml hts0 hown hA hP hK hD hE hl hret
  have hts : ∀ w ∈ wsL_law, w.before args s = true := fun w h => hts0 w (List.mem_cons_of_mem _ h)
  clear hts0
  have hown : s.vm.findClass RX5 = some m.cls := hown
  have hl : lv_has ls 3 [(0, .ref (q 8)), (1, .int kind), (2, .int secret)] := hl
  have hS : va_S A s.heap s.heap [] := va_S.rf
  revert hP hS
  suffices hgo : ∀ (H : Heap) (locs : List Loc), va_P D vwCl (wTown cI q tb tp tr knd sec brd rms) H → va_S A s.heap H locs → W p l e rm_X5_addPerson s m args below meth c H locs 0 0 Q (F0 m 0 ls []) from fun a b => hgo _ _ a b
  intro H locs hP hS
  refine lv_aload_n hx hb dX5_addPerson_0 rfl (lv_at hl 0 rfl) ?_
  refine va_get (D := D) (ci := 5) (v := .ref (q 9)) (C := RX5) (T := TX5) (N := 7) hx hb hts inlX5 hown hK hP 0 rfl rfl 3 (by decide) (kw hts kin_3 14 rfl) (fun _ h9 => h9) rfl dX5_addPerson_1 ?_
  refine lv_aload_n hx hb dX5_addPerson_4 rfl (lv_at hl 0 rfl) ?_
  refine va_get (D := D) (ci := 5) (v := .int tp) (C := RX5) (T := TX5) (N := 7) hx hb hts inlX5 hown hK hP 0 rfl rfl 1 (by decide) (kw hts kin_15 3 rfl) (fun _ h9 => h9) rfl dX5_addPerson_5 ?_
  refine lv_iload_n hx hb dX5_addPerson_8 rfl (lv_at hl 1 rfl) ?_
  refine kvv (As := [.int tp, .int kind]) (rest := []) (q0 := 0) (ci := 0) ⟨hx, hb, hml, hown, hts⟩ hP hK hD hS hA hE (k_X0_put l D cI cZ adK adV (q 9) (q 10) 6 knd tp kind (by decide)) (kcv hts kM_X0_put (kin_15 _ (List.mem_of_getElem? (i := 13) rfl)) ⟨rfl, rfl⟩ ⟨Nat.le_of_ble_eq_true rfl, Nat.le_of_ble_eq_true rfl⟩) kBl_G kOk_G (wTown cI q tb tp tr (f_X0_put 6 knd tp kind) sec brd rms) (cut_town_row_1_2 cI q tb tp tr knd sec brd rms (f_X0_put 6 knd tp kind)).1 (cut_town_row_1_2 cI q tb tp tr knd sec brd rms (f_X0_put 6 knd tp kind)).2 rfl rfl rfl rfl hl.1 rfl (Nat.le_of_ble_eq_true rfl) dX5_addPerson_9 (fun H locs hP hD hS => ?_)
  refine lv_aload_n hx hb dX5_addPerson_12 rfl (lv_at hl 0 rfl) ?_
  refine va_get (D := D) (ci := 5) (v := .ref (q 11)) (C := RX5) (T := TX5) (N := 7) hx hb hts inlX5 hown hK hP 0 rfl rfl 4 (by decide) (kw hts kin_3 15 rfl) (fun _ h9 => h9) rfl dX5_addPerson_13 ?_
  refine lv_aload_n hx hb dX5_addPerson_16 rfl (lv_at hl 0 rfl) ?_
  refine va_get (D := D) (ci := 5) (v := .int tp) (C := RX5) (T := TX5) (N := 7) hx hb hts inlX5 hown hK hP 0 rfl rfl 1 (by decide) (kw hts kin_15 3 rfl) (fun _ h9 => h9) rfl dX5_addPerson_17 ?_
  refine lv_iload_n hx hb dX5_addPerson_20 rfl (lv_at hl 2 rfl) ?_
  refine kvv (As := [.int tp, .int secret]) (rest := []) (q0 := 0) (ci := 0) ⟨hx, hb, hml, hown, hts⟩ hP hK hD hS hA hE (k_X0_put l D cI cZ adK adV (q 11) (q 12) 6 sec tp secret (by decide)) (kcv hts kM_X0_put (kin_15 _ (List.mem_of_getElem? (i := 13) rfl)) ⟨rfl, rfl⟩ ⟨Nat.le_of_ble_eq_true rfl, Nat.le_of_ble_eq_true rfl⟩) kBl_G kOk_G (wTown cI q tb tp tr (f_X0_put 6 knd tp kind) (f_X0_put 6 sec tp secret) brd rms) (cut_town_row_3_4 cI q tb tp tr (f_X0_put 6 knd tp kind) sec brd rms (f_X0_put 6 sec tp secret)).1 (cut_town_row_3_4 cI q tb tp tr (f_X0_put 6 knd tp kind) sec brd rms (f_X0_put 6 sec tp secret)).2 rfl rfl rfl rfl hl.1 rfl (Nat.le_of_ble_eq_true rfl) dX5_addPerson_21 (fun H locs hP hD hS => ?_)
  refine lv_aload_n hx hb dX5_addPerson_24 rfl (lv_at hl 0 rfl) ?_
  refine lv_bipush (v := 6) hx hb dX5_addPerson_25 (by decide) ?_
  refine lv_aload_n hx hb dX5_addPerson_27 rfl (lv_at hl 0 rfl) ?_
  refine va_get (D := D) (ci := 5) (v := .int tp) (C := RX5) (T := TX5) (N := 7) hx hb hts inlX5 hown hK hP 0 rfl rfl 1 (by decide) (kw hts kin_15 3 rfl) (fun _ h9 => h9) rfl dX5_addPerson_28 ?_
  refine lv_iconst (v := 1) hx hb dX5_addPerson_31 (by decide) ?_
  refine lv_iadd hx hb dX5_addPerson_32 ?_
  refine va_mmin hx hb (hml.trans hl.1.symm) hown (kw hts kin_15 1 rfl) (kw hts kin_5 18 rfl) (kw hts kin_3 4 rfl) (kw hts kin_5 19 rfl) (Nat.le_of_ble_eq_true rfl) (Nat.le_of_ble_eq_true rfl) (Nat.zero_le _) (Nat.zero_le _) dX5_addPerson_33 ?_
  refine va_put (D := D) (ci := 5) (v := .int (if (tp + 1) < 6 then (tp + 1) else 6)) (ty := .int) (C := RX5) (T := TX5) (N := 7) hx hb hts inlX5 tyX5 tyX5_ok nmX5 hown hK hP hD hS 0 rfl rfl 1 (by decide) (kw hts kin_15 3 rfl) (fun _ h9 => h9) rfl (by decide +kernel) rfl rfl (Nat.le_of_ble_eq_true rfl) dX5_addPerson_36 (fun H locs hP hD hS => ?_)
  have hP : va_P D vwCl (wTown cI q tb (if (tp + 1) < 6 then (tp + 1) else 6) tr (f_X0_put 6 knd tp kind) (f_X0_put 6 sec tp secret) brd rms) H := hP
  have hD : va_D A (wTown cI q tb (if (tp + 1) < 6 then (tp + 1) else 6) tr (f_X0_put 6 knd tp kind) (f_X0_put 6 sec tp secret) brd rms) := hD
  have hf : (f_X5_addPerson tp knd sec kind secret) = ((if (tp + 1) < 6 then (tp + 1) else 6), (f_X0_put 6 knd tp kind), (f_X0_put 6 sec tp secret)) := rfl
  rw [hf] at hret
  dsimp only at hret
  exact hret _ _ _ _ hP hS dX5_addPerson_39
def f_X5_addRumour (tr : Int32) (rms : Nat → Int32) (number : Int32) : Int32 × (Nat → Int32) := ((if (tr + 1) < 8 then (tr + 1) else 8), (f_X0_put 8 rms tr number))
abbrev rm_X5_addRumour : Room := { frames := 1, cells := 0, slots := 0, locals := 22 }
set_option maxRecDepth 100000 in
set_option maxHeartbeats 4000000 in
theorem k_X5_addRumour (l : Launch) (D : va_G) (cI cZ : ClassId) (adK adV : Nat → Nat) (q : Nat → Nat) (tb : Int32) (tp : Int32) (tr : Int32) (knd : Nat → Int32) (sec : Nat → Int32) (brd : Nat → Int32) (rms : Nat → Int32) (number : Int32) : CV l D (kTy cI cZ) (kG adK adV) yX5_addRumour (.code yX5_addRumour cX5_addRumour 2 none :: wsL_law) rm_X5_addRumour [.ref (q 8), .int number] (wTown cI q tb tp tr knd sec brd rms) (wTown cI q tb tp ((f_X5_addRumour tr rms number).1) knd sec brd ((f_X5_addRumour tr rms number).2)) := by
  refine CV.of (cc := cX5_addRumour) (maxL := 2) (by decide) rfl (Nat.le_of_ble_eq_true rfl) ?_
  intro p e s m args below meth c A Q ls hx hb hml hts0 hown hA hP hK hD hE hl hret
  have hts : ∀ w ∈ wsL_law, w.before args s = true := fun w h => hts0 w (List.mem_cons_of_mem _ h)
  clear hts0
  have hown : s.vm.findClass RX5 = some m.cls := hown
  have hl : lv_has ls 2 [(0, .ref (q 8)), (1, .int number)] := hl
  have hS : va_S A s.heap s.heap [] := va_S.rf
  revert hP hS
  suffices hgo : ∀ (H : Heap) (locs : List Loc), va_P D vwCl (wTown cI q tb tp tr knd sec brd rms) H → va_S A s.heap H locs → W p l e rm_X5_addRumour s m args below meth c H locs 0 0 Q (F0 m 0 ls []) from fun a b => hgo _ _ a b
  intro H locs hP hS
  refine lv_aload_n hx hb dX5_addRumour_0 rfl (lv_at hl 0 rfl) ?_
  refine va_get (D := D) (ci := 5) (v := .ref (q 15)) (C := RX5) (T := TX5) (N := 7) hx hb hts inlX5 hown hK hP 0 rfl rfl 6 (by decide) (kw hts kin_3 17 rfl) (fun _ h9 => h9) rfl dX5_addRumour_1 ?_
  refine lv_aload_n hx hb dX5_addRumour_4 rfl (lv_at hl 0 rfl) ?_
  refine va_get (D := D) (ci := 5) (v := .int tr) (C := RX5) (T := TX5) (N := 7) hx hb hts inlX5 hown hK hP 0 rfl rfl 2 (by decide) (kw hts kin_15 4 rfl) (fun _ h9 => h9) rfl dX5_addRumour_5 ?_
  refine lv_iload_n hx hb dX5_addRumour_8 rfl (lv_at hl 1 rfl) ?_
  refine kvv (As := [.int tr, .int number]) (rest := []) (q0 := 0) (ci := 0) ⟨hx, hb, hml, hown, hts⟩ hP hK hD hS hA hE (k_X0_put l D cI cZ adK adV (q 15) (q 16) 8 rms tr number (by decide)) (kcv hts kM_X0_put (kin_15 _ (List.mem_of_getElem? (i := 13) rfl)) ⟨rfl, rfl⟩ ⟨Nat.le_of_ble_eq_true rfl, Nat.le_of_ble_eq_true rfl⟩) kBl_G kOk_G (wTown cI q tb tp tr knd sec brd (f_X0_put 8 rms tr number)) (cut_town_row_7_8 cI q tb tp tr knd sec brd rms (f_X0_put 8 rms tr number)).1 (cut_town_row_7_8 cI q tb tp tr knd sec brd rms (f_X0_put 8 rms tr number)).2 rfl rfl rfl rfl hl.1 rfl (Nat.le_of_ble_eq_true rfl) dX5_addRumour_9 (fun H locs hP hD hS => ?_)
  refine lv_aload_n hx hb dX5_addRumour_12 rfl (lv_at hl 0 rfl) ?_
  refine lv_bipush (v := 8) hx hb dX5_addRumour_13 (by decide) ?_
  refine lv_aload_n hx hb dX5_addRumour_15 rfl (lv_at hl 0 rfl) ?_
  refine va_get (D := D) (ci := 5) (v := .int tr) (C := RX5) (T := TX5) (N := 7) hx hb hts inlX5 hown hK hP 0 rfl rfl 2 (by decide) (kw hts kin_15 4 rfl) (fun _ h9 => h9) rfl dX5_addRumour_16 ?_
  refine lv_iconst (v := 1) hx hb dX5_addRumour_19 (by decide) ?_
  refine lv_iadd hx hb dX5_addRumour_20 ?_
  refine va_mmin hx hb (hml.trans hl.1.symm) hown (kw hts kin_15 1 rfl) (kw hts kin_5 18 rfl) (kw hts kin_3 4 rfl) (kw hts kin_5 19 rfl) (Nat.le_of_ble_eq_true rfl) (Nat.le_of_ble_eq_true rfl) (Nat.zero_le _) (Nat.zero_le _) dX5_addRumour_21 ?_
  refine va_put (D := D) (ci := 5) (v := .int (if (tr + 1) < 8 then (tr + 1) else 8)) (ty := .int) (C := RX5) (T := TX5) (N := 7) hx hb hts inlX5 tyX5 tyX5_ok nmX5 hown hK hP hD hS 0 rfl rfl 2 (by decide) (kw hts kin_15 4 rfl) (fun _ h9 => h9) rfl (by decide +kernel) rfl rfl (Nat.le_of_ble_eq_true rfl) dX5_addRumour_24 (fun H locs hP hD hS => ?_)
  have hP : va_P D vwCl (wTown cI q tb tp (if (tr + 1) < 8 then (tr + 1) else 8) knd sec brd (f_X0_put 8 rms tr number)) H := hP
  have hD : va_D A (wTown cI q tb tp (if (tr + 1) < 8 then (tr + 1) else 8) knd sec brd (f_X0_put 8 rms tr number)) := hD
  have hf : (f_X5_addRumour tr rms number) = ((if (tr + 1) < 8 then (tr + 1) else 8), (f_X0_put 8 rms tr number)) := rfl
  rw [hf] at hret
  dsimp only at hret
  exact hret _ _ _ _ hP hS dX5_addRumour_27
def v_X5_hear_1_0 (tb : Int32) (brd : Nat → Int32) (word : Int32) (first : Int32) : Int32 := if word = 4 then ((f_X5_found brd first).1) else (if word = 5 then tb else (if word = 6 then tb else tb))
def v_X5_hear_1_1 (tp : Int32) (knd : Nat → Int32) (sec : Nat → Int32) (brd : Nat → Int32) (word : Int32) (first : Int32) : Int32 := if word = 4 then ((f_X5_found brd first).2.1) else (if word = 5 then tp else (if word = 6 then tp else ((f_X5_addPerson tp knd sec word first).1)))
def v_X5_hear_1_2 (tr : Int32) (brd : Nat → Int32) (rms : Nat → Int32) (word : Int32) (first : Int32) : Int32 := if word = 4 then ((f_X5_found brd first).2.2.1) else (if word = 5 then ((f_X5_addRumour tr rms first).1) else (if word = 6 then tr else tr))
def v_X5_hear_1_3 (tp : Int32) (knd : Nat → Int32) (sec : Nat → Int32) (word : Int32) (first : Int32) : Nat → Int32 := if word = 4 then knd else (if word = 5 then knd else (if word = 6 then knd else ((f_X5_addPerson tp knd sec word first).2.1)))
def v_X5_hear_1_4 (tp : Int32) (knd : Nat → Int32) (sec : Nat → Int32) (word : Int32) (first : Int32) : Nat → Int32 := if word = 4 then sec else (if word = 5 then sec else (if word = 6 then sec else ((f_X5_addPerson tp knd sec word first).2.2)))
def v_X5_hear_1_5 (brd : Nat → Int32) (word : Int32) (first : Int32) (second : Int32) (third : Int32) : Nat → Int32 := if word = 4 then ((f_X5_found brd first).2.2.2) else (if word = 5 then brd else (if word = 6 then (f_X0_put 36 brd ((first * 6) + second) third) else brd))
def v_X5_hear_1_6 (tr : Int32) (rms : Nat → Int32) (word : Int32) (first : Int32) : Nat → Int32 := if word = 4 then rms else (if word = 5 then ((f_X5_addRumour tr rms first).2) else (if word = 6 then rms else rms))
def f_X5_hear (tb : Int32) (tp : Int32) (tr : Int32) (knd : Nat → Int32) (sec : Nat → Int32) (brd : Nat → Int32) (rms : Nat → Int32) (word : Int32) (first : Int32) (second : Int32) (third : Int32) : Int32 × Int32 × Int32 × (Nat → Int32) × (Nat → Int32) × (Nat → Int32) × (Nat → Int32) := ((v_X5_hear_1_0 tb brd word first), (v_X5_hear_1_1 tp knd sec brd word first), (v_X5_hear_1_2 tr brd rms word first), (v_X5_hear_1_3 tp knd sec word first), (v_X5_hear_1_4 tp knd sec word first), (v_X5_hear_1_5 brd word first second third), (v_X5_hear_1_6 tr rms word first))
abbrev rm_X5_hear : Room := { frames := 2, cells := 0, slots := 0, locals := 44 }
set_option maxRecDepth 100000 in
set_option maxHeartbeats 4000000 in
theorem k_X5_hear (l : Launch) (D : va_G) (cI cZ : ClassId) (adK adV : Nat → Nat) (q : Nat → Nat) (tb : Int32) (tp : Int32) (tr : Int32) (knd : Nat → Int32) (sec : Nat → Int32) (brd : Nat → Int32) (rms : Nat → Int32) (word : Int32) (first : Int32) (second : Int32) (third : Int32) : CV l D (kTy cI cZ) (kG adK adV) yX5_hear (.code yX5_hear cX5_hear 5 none :: wsL_law) rm_X5_hear [.ref (q 8), .int word, .int first, .int second, .int third] (wTown cI q tb tp tr knd sec brd rms) (wTown cI q ((f_X5_hear tb tp tr knd sec brd rms word first second third).1) ((f_X5_hear tb tp tr knd sec brd rms word first second third).2.1) ((f_X5_hear tb tp tr knd sec brd rms word first second third).2.2.1) ((f_X5_hear tb tp tr knd sec brd rms word first second third).2.2.2.1) ((f_X5_hear tb tp tr knd sec brd rms word first second third).2.2.2.2.1) ((f_X5_hear tb tp tr knd sec brd rms word first second third).2.2.2.2.2.1) ((f_X5_hear tb tp tr knd sec brd rms word first second third).2.2.2.2.2.2)) := by
  refine CV.of (cc := cX5_hear) (maxL := 5) (by decide) rfl (Nat.le_of_ble_eq_true rfl) ?_
  intro p e s m args below meth c A Q ls hx hb hml hts0 hown hA hP hK hD hE hl hret
  have hts : ∀ w ∈ wsL_law, w.before args s = true := fun w h => hts0 w (List.mem_cons_of_mem _ h)
  clear hts0
  have hown : s.vm.findClass RX5 = some m.cls := hown
  have hl : lv_has ls 5 [(0, .ref (q 8)), (1, .int word), (2, .int first), (3, .int second), (4, .int third)] := hl
  have hS : va_S A s.heap s.heap [] := va_S.rf
  revert hP hS
  suffices hgo : ∀ (H : Heap) (locs : List Loc), va_P D vwCl (wTown cI q tb tp tr knd sec brd rms) H → va_S A s.heap H locs → W p l e rm_X5_hear s m args below meth c H locs 0 0 Q (F0 m 0 ls []) from fun a b => hgo _ _ a b
  intro H locs hP hS
  refine lv_iload_n hx hb dX5_hear_0 rfl (lv_at hl 1 rfl) ?_
  have J1 : ∀ (H : Heap) (locs : List Loc) (ls : Array Slot), va_P D vwCl (wTown cI q (v_X5_hear_1_0 tb brd word first) (v_X5_hear_1_1 tp knd sec brd word first) (v_X5_hear_1_2 tr brd rms word first) (v_X5_hear_1_3 tp knd sec word first) (v_X5_hear_1_4 tp knd sec word first) (v_X5_hear_1_5 brd word first second third) (v_X5_hear_1_6 tr rms word first)) H → va_D A (wTown cI q (v_X5_hear_1_0 tb brd word first) (v_X5_hear_1_1 tp knd sec brd word first) (v_X5_hear_1_2 tr brd rms word first) (v_X5_hear_1_3 tp knd sec word first) (v_X5_hear_1_4 tp knd sec word first) (v_X5_hear_1_5 brd word first second third) (v_X5_hear_1_6 tr rms word first)) → va_S A s.heap H locs → lv_has ls 5 [(0, .ref (q 8)), (1, .int word), (2, .int first), (3, .int second), (4, .int third)] → W p l e rm_X5_hear s m args below meth c H locs 0 0 Q (F0 m 68 ls []) := by
    intro H locs ls hP hD hS hl
    have hf : (f_X5_hear tb tp tr knd sec brd rms word first second third) = ((v_X5_hear_1_0 tb brd word first), (v_X5_hear_1_1 tp knd sec brd word first), (v_X5_hear_1_2 tr brd rms word first), (v_X5_hear_1_3 tp knd sec word first), (v_X5_hear_1_4 tp knd sec word first), (v_X5_hear_1_5 brd word first second third), (v_X5_hear_1_6 tr rms word first)) := rfl
    rw [hf] at hret
    dsimp only at hret
    exact hret _ _ _ _ hP hS dX5_hear_68
  by_cases c_1_0 : word = 4
  · skip
    refine lv_tableIn (off := 27) (tgt := 28) hx hb dX5_hear_1 (by rw [c_1_0]; decide) (by rw [c_1_0]; decide) (by rw [c_1_0]; rfl) (by decide) ?_
    refine lv_aload_n hx hb dX5_hear_28 rfl (lv_at hl 0 rfl) ?_
    refine lv_iload_n hx hb dX5_hear_29 rfl (lv_at hl 2 rfl) ?_
    refine kvv (As := [.int first]) (rest := []) (q0 := 0) (ci := 5) ⟨hx, hb, hml, hown, hts⟩ hP hK hD hS hA hE (k_X5_found l D cI cZ adK adV q tb tp tr knd sec brd rms first) (kcv hts kM_X5_found (kin_14 _ (List.mem_of_getElem? (i := 21) rfl)) ⟨rfl, rfl⟩ ⟨Nat.le_of_ble_eq_true rfl, Nat.le_of_ble_eq_true rfl⟩) kBl_G kOk_G (wTown cI q ((f_X5_found brd first).1) ((f_X5_found brd first).2.1) ((f_X5_found brd first).2.2.1) knd sec ((f_X5_found brd first).2.2.2) rms) (cut_town_town cI q tb tp tr knd sec brd rms ((f_X5_found brd first).1) ((f_X5_found brd first).2.1) ((f_X5_found brd first).2.2.1) knd sec ((f_X5_found brd first).2.2.2) rms).1 (cut_town_town cI q tb tp tr knd sec brd rms ((f_X5_found brd first).1) ((f_X5_found brd first).2.1) ((f_X5_found brd first).2.2.1) knd sec ((f_X5_found brd first).2.2.2) rms).2 rfl rfl rfl rfl hl.1 rfl (Nat.le_of_ble_eq_true rfl) dX5_hear_30 (fun H locs hP hD hS => ?_)
    refine lv_goto (tgt := 68) hx hb dX5_hear_33 (by decide) ?_
    rw [show (v_X5_hear_1_0 tb brd word first) = (f_X5_found brd first).1 from (if_pos c_1_0)] at J1
    rw [show (v_X5_hear_1_1 tp knd sec brd word first) = (f_X5_found brd first).2.1 from (if_pos c_1_0)] at J1
    rw [show (v_X5_hear_1_2 tr brd rms word first) = (f_X5_found brd first).2.2.1 from (if_pos c_1_0)] at J1
    rw [show (v_X5_hear_1_3 tp knd sec word first) = knd from (if_pos c_1_0)] at J1
    rw [show (v_X5_hear_1_4 tp knd sec word first) = sec from (if_pos c_1_0)] at J1
    rw [show (v_X5_hear_1_5 brd word first second third) = (f_X5_found brd first).2.2.2 from (if_pos c_1_0)] at J1
    rw [show (v_X5_hear_1_6 tr rms word first) = rms from (if_pos c_1_0)] at J1
    exact J1 _ _ _ hP hD hS (lv_sub hl [0, 1, 2, 3, 4] rfl)
  · skip
    by_cases c_1_1 : word = 5
    · skip
      refine lv_tableIn (off := 35) (tgt := 36) hx hb dX5_hear_1 (by rw [c_1_1]; decide) (by rw [c_1_1]; decide) (by rw [c_1_1]; rfl) (by decide) ?_
      refine lv_aload_n hx hb dX5_hear_36 rfl (lv_at hl 0 rfl) ?_
      refine lv_iload_n hx hb dX5_hear_37 rfl (lv_at hl 2 rfl) ?_
      refine kvv (As := [.int first]) (rest := []) (q0 := 0) (ci := 5) ⟨hx, hb, hml, hown, hts⟩ hP hK hD hS hA hE (k_X5_addRumour l D cI cZ adK adV q tb tp tr knd sec brd rms first) (kcv hts kM_X5_addRumour (kin_15 _ (List.mem_of_getElem? (i := 9) rfl)) ⟨rfl, rfl⟩ ⟨Nat.le_of_ble_eq_true rfl, Nat.le_of_ble_eq_true rfl⟩) kBl_G kOk_G (wTown cI q tb tp ((f_X5_addRumour tr rms first).1) knd sec brd ((f_X5_addRumour tr rms first).2)) (cut_town_town cI q tb tp tr knd sec brd rms tb tp ((f_X5_addRumour tr rms first).1) knd sec brd ((f_X5_addRumour tr rms first).2)).1 (cut_town_town cI q tb tp tr knd sec brd rms tb tp ((f_X5_addRumour tr rms first).1) knd sec brd ((f_X5_addRumour tr rms first).2)).2 rfl rfl rfl rfl hl.1 rfl (Nat.le_of_ble_eq_true rfl) dX5_hear_38 (fun H locs hP hD hS => ?_)
      refine lv_goto (tgt := 68) hx hb dX5_hear_41 (by decide) ?_
      rw [show (v_X5_hear_1_0 tb brd word first) = tb from ((if_neg c_1_0).trans (if_pos c_1_1))] at J1
      rw [show (v_X5_hear_1_1 tp knd sec brd word first) = tp from ((if_neg c_1_0).trans (if_pos c_1_1))] at J1
      rw [show (v_X5_hear_1_2 tr brd rms word first) = (f_X5_addRumour tr rms first).1 from ((if_neg c_1_0).trans (if_pos c_1_1))] at J1
      rw [show (v_X5_hear_1_3 tp knd sec word first) = knd from ((if_neg c_1_0).trans (if_pos c_1_1))] at J1
      rw [show (v_X5_hear_1_4 tp knd sec word first) = sec from ((if_neg c_1_0).trans (if_pos c_1_1))] at J1
      rw [show (v_X5_hear_1_5 brd word first second third) = brd from ((if_neg c_1_0).trans (if_pos c_1_1))] at J1
      rw [show (v_X5_hear_1_6 tr rms word first) = (f_X5_addRumour tr rms first).2 from ((if_neg c_1_0).trans (if_pos c_1_1))] at J1
      exact J1 _ _ _ hP hD hS (lv_sub hl [0, 1, 2, 3, 4] rfl)
    · skip
      by_cases c_1_2 : word = 6
      · skip
        refine lv_tableIn (off := 43) (tgt := 44) hx hb dX5_hear_1 (by rw [c_1_2]; decide) (by rw [c_1_2]; decide) (by rw [c_1_2]; rfl) (by decide) ?_
        refine lv_aload_n hx hb dX5_hear_44 rfl (lv_at hl 0 rfl) ?_
        refine va_get (D := D) (ci := 5) (v := .ref (q 13)) (C := RX5) (T := TX5) (N := 7) hx hb hts inlX5 hown hK hP 0 rfl rfl 5 (by decide) (kw hts kin_3 16 rfl) (fun _ h9 => h9) rfl dX5_hear_45 ?_
        refine lv_iload_n hx hb dX5_hear_48 rfl (lv_at hl 2 rfl) ?_
        refine lv_bipush (v := 6) hx hb dX5_hear_49 (by decide) ?_
        refine lv_imul hx hb dX5_hear_51 ?_
        refine lv_iload_n hx hb dX5_hear_52 rfl (lv_at hl 3 rfl) ?_
        refine lv_iadd hx hb dX5_hear_53 ?_
        refine lv_iload hx hb dX5_hear_54 (lv_at hl 4 rfl) ?_
        refine kvv (As := [.int ((first * 6) + second), .int third]) (rest := []) (q0 := 0) (ci := 0) ⟨hx, hb, hml, hown, hts⟩ hP hK hD hS hA hE (k_X0_put l D cI cZ adK adV (q 13) (q 14) 36 brd ((first * 6) + second) third (by decide)) (kcv hts kM_X0_put (kin_15 _ (List.mem_of_getElem? (i := 13) rfl)) ⟨rfl, rfl⟩ ⟨Nat.le_of_ble_eq_true rfl, Nat.le_of_ble_eq_true rfl⟩) kBl_G kOk_G (wTown cI q tb tp tr knd sec (f_X0_put 36 brd ((first * 6) + second) third) rms) (cut_town_row_5_6 cI q tb tp tr knd sec brd rms (f_X0_put 36 brd ((first * 6) + second) third)).1 (cut_town_row_5_6 cI q tb tp tr knd sec brd rms (f_X0_put 36 brd ((first * 6) + second) third)).2 rfl rfl rfl rfl hl.1 rfl (Nat.le_of_ble_eq_true rfl) dX5_hear_56 (fun H locs hP hD hS => ?_)
        refine lv_goto (tgt := 68) hx hb dX5_hear_59 (by decide) ?_
        rw [show (v_X5_hear_1_0 tb brd word first) = tb from ((if_neg c_1_0).trans ((if_neg c_1_1).trans (if_pos c_1_2)))] at J1
        rw [show (v_X5_hear_1_1 tp knd sec brd word first) = tp from ((if_neg c_1_0).trans ((if_neg c_1_1).trans (if_pos c_1_2)))] at J1
        rw [show (v_X5_hear_1_2 tr brd rms word first) = tr from ((if_neg c_1_0).trans ((if_neg c_1_1).trans (if_pos c_1_2)))] at J1
        rw [show (v_X5_hear_1_3 tp knd sec word first) = knd from ((if_neg c_1_0).trans ((if_neg c_1_1).trans (if_pos c_1_2)))] at J1
        rw [show (v_X5_hear_1_4 tp knd sec word first) = sec from ((if_neg c_1_0).trans ((if_neg c_1_1).trans (if_pos c_1_2)))] at J1
        rw [show (v_X5_hear_1_5 brd word first second third) = (f_X0_put 36 brd ((first * 6) + second) third) from ((if_neg c_1_0).trans ((if_neg c_1_1).trans (if_pos c_1_2)))] at J1
        rw [show (v_X5_hear_1_6 tr rms word first) = rms from ((if_neg c_1_0).trans ((if_neg c_1_1).trans (if_pos c_1_2)))] at J1
        exact J1 _ _ _ hP hD hS (lv_sub hl [0, 1, 2, 3, 4] rfl)
      · skip
        have htab : word.toInt < 4 ∨ 6 < word.toInt := by
          have a0 : word.toInt ≠ 4 := kneI c_1_0
          have a1 : word.toInt ≠ 5 := kneI c_1_1
          have a2 : word.toInt ≠ 6 := kneI c_1_2
          omega
        refine lv_tableOut (tgt := 62) hx hb dX5_hear_1 htab (by decide) ?_
        refine lv_aload_n hx hb dX5_hear_62 rfl (lv_at hl 0 rfl) ?_
        refine lv_iload_n hx hb dX5_hear_63 rfl (lv_at hl 1 rfl) ?_
        refine lv_iload_n hx hb dX5_hear_64 rfl (lv_at hl 2 rfl) ?_
        refine kvv (As := [.int word, .int first]) (rest := []) (q0 := 0) (ci := 5) ⟨hx, hb, hml, hown, hts⟩ hP hK hD hS hA hE (k_X5_addPerson l D cI cZ adK adV q tb tp tr knd sec brd rms word first) (kcv hts kM_X5_addPerson (kin_15 _ (List.mem_of_getElem? (i := 14) rfl)) ⟨rfl, rfl⟩ ⟨Nat.le_of_ble_eq_true rfl, Nat.le_of_ble_eq_true rfl⟩) kBl_G kOk_G (wTown cI q tb ((f_X5_addPerson tp knd sec word first).1) tr ((f_X5_addPerson tp knd sec word first).2.1) ((f_X5_addPerson tp knd sec word first).2.2) brd rms) (cut_town_town cI q tb tp tr knd sec brd rms tb ((f_X5_addPerson tp knd sec word first).1) tr ((f_X5_addPerson tp knd sec word first).2.1) ((f_X5_addPerson tp knd sec word first).2.2) brd rms).1 (cut_town_town cI q tb tp tr knd sec brd rms tb ((f_X5_addPerson tp knd sec word first).1) tr ((f_X5_addPerson tp knd sec word first).2.1) ((f_X5_addPerson tp knd sec word first).2.2) brd rms).2 rfl rfl rfl rfl hl.1 rfl (Nat.le_of_ble_eq_true rfl) dX5_hear_65 (fun H locs hP hD hS => ?_)
        rw [show (v_X5_hear_1_0 tb brd word first) = tb from ((if_neg c_1_0).trans ((if_neg c_1_1).trans (if_neg c_1_2)))] at J1
        rw [show (v_X5_hear_1_1 tp knd sec brd word first) = (f_X5_addPerson tp knd sec word first).1 from ((if_neg c_1_0).trans ((if_neg c_1_1).trans (if_neg c_1_2)))] at J1
        rw [show (v_X5_hear_1_2 tr brd rms word first) = tr from ((if_neg c_1_0).trans ((if_neg c_1_1).trans (if_neg c_1_2)))] at J1
        rw [show (v_X5_hear_1_3 tp knd sec word first) = (f_X5_addPerson tp knd sec word first).2.1 from ((if_neg c_1_0).trans ((if_neg c_1_1).trans (if_neg c_1_2)))] at J1
        rw [show (v_X5_hear_1_4 tp knd sec word first) = (f_X5_addPerson tp knd sec word first).2.2 from ((if_neg c_1_0).trans ((if_neg c_1_1).trans (if_neg c_1_2)))] at J1
        rw [show (v_X5_hear_1_5 brd word first second third) = brd from ((if_neg c_1_0).trans ((if_neg c_1_1).trans (if_neg c_1_2)))] at J1
        rw [show (v_X5_hear_1_6 tr rms word first) = rms from ((if_neg c_1_0).trans ((if_neg c_1_1).trans (if_neg c_1_2)))] at J1
        exact J1 _ _ _ hP hD hS (lv_sub hl [0, 1, 2, 3, 4] rfl)
