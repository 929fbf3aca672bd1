def lo_X3_allTrueOf_2 (ss : Nat → Int32) (sb : Nat → Int32) (sp : Nat → Int32) (knd : Nat → Int32) (sec : Nat → Int32) (person : Int32) : Nat → Nat → Int32
  | 0, i => 1
  | k2 + 1, i => if (f_X5_wouldTell knd sec person (f_X0_at 6 ss (nI i)) (f_X0_at 6 sb (nI i))) = (f_X0_at 6 sp (nI i)) then (lo_X3_allTrueOf_2 ss sb sp knd sec person k2 (i + 1)) else 0
def f_X3_allTrueOf (sn : Int32) (ss : Nat → Int32) (sb : Nat → Int32) (sp : Nat → Int32) (knd : Nat → Int32) (sec : Nat → Int32) (person : Int32) : Int32 := lo_X3_allTrueOf_2 ss sb sp knd sec person sn.toNatClampNeg 0
abbrev rm_X3_allTrueOf : Room := { frames := 3, cells := 0, slots := 0, locals := 65 }
theorem nb_X3_allTrueOf (ss sb sp knd sec : Nat → Int32) (person : Int32) : ∀ k i : Nat, narrow .boolean (.int (lo_X3_allTrueOf_2 ss sb sp knd sec person k i)) = .int (lo_X3_allTrueOf_2 ss sb sp knd sec person k i) := by
  intro k
  induction k with
  | zero => intro i; rw [lo_X3_allTrueOf_2]; rfl
  | succ k ih =>
    intro i
    simp only [lo_X3_allTrueOf_2]
    split
    · exact ih _
    · rfl
set_option maxRecDepth 100000 in
theorem cut_seetown_row_1_2 (cI : ClassId) (q : Nat → Nat) (sn : Int32) (ss : Nat → Int32) (sb : Nat → Int32) (sp : Nat → Int32) (tb : Int32) (tp : Int32) (tr : Int32) (knd : Nat → Int32) (sec : Nat → Int32) (brd : Nat → Int32) (rms : Nat → Int32) (n_f : Nat → Int32) : kCut (wSee cI q sn ss sb sp ++ wTown cI q tb tp tr knd sec brd rms) (wR cI (q 21) (q 22) 6 ss) (wR cI (q 21) (q 22) 6 n_f) (wSee cI q sn n_f sb sp ++ wTown cI q tb tp tr knd sec brd rms) [((q 20), .inr (3, [.int sn, .ref (q 21), .ref (q 23), .ref (q 25)])), ((q 23), .inr (0, [.ref (q 24)])), ((q 24), .inl (cI, 6, .inl sb)), ((q 25), .inr (0, [.ref (q 26)])), ((q 26), .inl (cI, 6, .inl sp)), ((q 8), .inr (5, [.int tb, .int tp, .int tr, .ref (q 9), .ref (q 11), .ref (q 13), .ref (q 15)])), ((q 9), .inr (0, [.ref (q 10)])), ((q 10), .inl (cI, 6, .inl knd)), ((q 11), .inr (0, [.ref (q 12)])), ((q 12), .inl (cI, 6, .inl sec)), ((q 13), .inr (0, [.ref (q 14)])), ((q 14), .inl (cI, 36, .inl brd)), ((q 15), .inr (0, [.ref (q 16)])), ((q 16), .inl (cI, 8, .inl rms))] [1, 2] [0, 3, 4, 5, 6, 7, 8, 9, 10, 11, 12, 13, 14, 15] [0, 14, 15, 1, 2, 3, 4, 5, 6, 7, 8, 9, 10, 11, 12, 13] [q 21, q 22] ∧ kNd [1, 2] [0, 3, 4, 5, 6, 7, 8, 9, 10, 11, 12, 13, 14, 15] [0, 14, 15, 1, 2, 3, 4, 5, 6, 7, 8, 9, 10, 11, 12, 13] = true := ⟨⟨rfl, rfl, ⟨rfl, rfl⟩, rfl⟩, by decide +kernel⟩
set_option maxRecDepth 100000 in
theorem cut_seetown_row_3_4 (cI : ClassId) (q : Nat → Nat) (sn : Int32) (ss : Nat → Int32) (sb : Nat → Int32) (sp : Nat → Int32) (tb : Int32) (tp : Int32) (tr : Int32) (knd : Nat → Int32) (sec : Nat → Int32) (brd : Nat → Int32) (rms : Nat → Int32) (n_f : Nat → Int32) : kCut (wSee cI q sn ss sb sp ++ wTown cI q tb tp tr knd sec brd rms) (wR cI (q 23) (q 24) 6 sb) (wR cI (q 23) (q 24) 6 n_f) (wSee cI q sn ss n_f sp ++ wTown cI q tb tp tr knd sec brd rms) [((q 20), .inr (3, [.int sn, .ref (q 21), .ref (q 23), .ref (q 25)])), ((q 21), .inr (0, [.ref (q 22)])), ((q 22), .inl (cI, 6, .inl ss)), ((q 25), .inr (0, [.ref (q 26)])), ((q 26), .inl (cI, 6, .inl sp)), ((q 8), .inr (5, [.int tb, .int tp, .int tr, .ref (q 9), .ref (q 11), .ref (q 13), .ref (q 15)])), ((q 9), .inr (0, [.ref (q 10)])), ((q 10), .inl (cI, 6, .inl knd)), ((q 11), .inr (0, [.ref (q 12)])), ((q 12), .inl (cI, 6, .inl sec)), ((q 13), .inr (0, [.ref (q 14)])), ((q 14), .inl (cI, 36, .inl brd)), ((q 15), .inr (0, [.ref (q 16)])), ((q 16), .inl (cI, 8, .inl rms))] [3, 4] [0, 1, 2, 5, 6, 7, 8, 9, 10, 11, 12, 13, 14, 15] [0, 1, 2, 14, 15, 3, 4, 5, 6, 7, 8, 9, 10, 11, 12, 13] [q 23, q 24] ∧ kNd [3, 4] [0, 1, 2, 5, 6, 7, 8, 9, 10, 11, 12, 13, 14, 15] [0, 1, 2, 14, 15, 3, 4, 5, 6, 7, 8, 9, 10, 11, 12, 13] = true := ⟨⟨rfl, rfl, ⟨rfl, rfl⟩, rfl⟩, by decide +kernel⟩
set_option maxRecDepth 100000 in
theorem cut_seetown_town (cI : ClassId) (q : Nat → Nat) (sn : Int32) (ss : Nat → Int32) (sb : Nat → Int32) (sp : Nat → Int32) (tb : Int32) (tp : Int32) (tr : Int32) (knd : Nat → Int32) (sec : Nat → Int32) (brd : Nat → Int32) (rms : Nat → Int32) (n_tb : Int32) (n_tp : Int32) (n_tr : Int32) (n_knd : Nat → Int32) (n_sec : Nat → Int32) (n_brd : Nat → Int32) (n_rms : Nat → Int32) : kCut (wSee cI q sn ss sb sp ++ wTown cI q tb tp tr knd sec brd rms) (wTown cI q tb tp tr knd sec brd rms) (wTown cI q n_tb n_tp n_tr n_knd n_sec n_brd n_rms) (wSee cI q sn ss sb sp ++ wTown cI q n_tb n_tp n_tr n_knd n_sec n_brd n_rms) [((q 20), .inr (3, [.int sn, .ref (q 21), .ref (q 23), .ref (q 25)])), ((q 21), .inr (0, [.ref (q 22)])), ((q 22), .inl (cI, 6, .inl ss)), ((q 23), .inr (0, [.ref (q 24)])), ((q 24), .inl (cI, 6, .inl sb)), ((q 25), .inr (0, [.ref (q 26)])), ((q 26), .inl (cI, 6, .inl sp))] [7, 8, 9, 10, 11, 12, 13, 14, 15] [0, 1, 2, 3, 4, 5, 6] [0, 1, 2, 3, 4, 5, 6, 7, 8, 9, 10, 11, 12, 13, 14, 15] [q 8, q 9, q 10, q 11, q 12, q 13, q 14, q 15, q 16] ∧ kNd [7, 8, 9, 10, 11, 12, 13, 14, 15] [0, 1, 2, 3, 4, 5, 6] [0, 1, 2, 3, 4, 5, 6, 7, 8, 9, 10, 11, 12, 13, 14, 15] = true := ⟨⟨rfl, rfl, ⟨rfl, rfl⟩, rfl⟩, by decide +kernel⟩
set_option maxRecDepth 100000 in
theorem cut_seetown_row_5_6 (cI : ClassId) (q : Nat → Nat) (sn : Int32) (ss : Nat → Int32) (sb : Nat → Int32) (sp : Nat → Int32) (tb : Int32) (tp : Int32) (tr : Int32) (knd : Nat → Int32) (sec : Nat → Int32) (brd : Nat → Int32) (rms : Nat → Int32) (n_f : Nat → Int32) : kCut (wSee cI q sn ss sb sp ++ wTown cI q tb tp tr knd sec brd rms) (wR cI (q 25) (q 26) 6 sp) (wR cI (q 25) (q 26) 6 n_f) (wSee cI q sn ss sb n_f ++ wTown cI q tb tp tr knd sec brd rms) [((q 20), .inr (3, [.int sn, .ref (q 21), .ref (q 23), .ref (q 25)])), ((q 21), .inr (0, [.ref (q 22)])), ((q 22), .inl (cI, 6, .inl ss)), ((q 23), .inr (0, [.ref (q 24)])), ((q 24), .inl (cI, 6, .inl sb)), ((q 8), .inr (5, [.int tb, .int tp, .int tr, .ref (q 9), .ref (q 11), .ref (q 13), .ref (q 15)])), ((q 9), .inr (0, [.ref (q 10)])), ((q 10), .inl (cI, 6, .inl knd)), ((q 11), .inr (0, [.ref (q 12)])), ((q 12), .inl (cI, 6, .inl sec)), ((q 13), .inr (0, [.ref (q 14)])), ((q 14), .inl (cI, 36, .inl brd)), ((q 15), .inr (0, [.ref (q 16)])), ((q 16), .inl (cI, 8, .inl rms))] [5, 6] [0, 1, 2, 3, 4, 7, 8, 9, 10, 11, 12, 13, 14, 15] [0, 1, 2, 3, 4, 14, 15, 5, 6, 7, 8, 9, 10, 11, 12, 13] [q 25, q 26] ∧ kNd [5, 6] [0, 1, 2, 3, 4, 7, 8, 9, 10, 11, 12, 13, 14, 15] [0, 1, 2, 3, 4, 14, 15, 5, 6, 7, 8, 9, 10, 11, 12, 13] = true := ⟨⟨rfl, rfl, ⟨rfl, rfl⟩, rfl⟩, by decide +kernel⟩
set_option maxRecDepth 100000 in
set_option maxHeartbeats 4000000 in
theorem k_X3_allTrueOf (l : Launch) (D : va_G) (cI cZ : ClassId) (adK adV : Nat → Nat) (q : Nat → Nat) (sn : Int32) (ss : Nat → Int32) (sb : Nat → Int32) (sp : Nat → Int32) (tb : Int32) (tp : Int32) (tr : Int32) (knd : Nat → Int32) (sec : Nat → Int32) (brd : Nat → Int32) (rms : Nat → Int32) (person : Int32) : CI l D (kTy cI cZ) (kG adK adV) yX3_allTrueOf (.code yX3_allTrueOf cX3_allTrueOf 4 (some .boolean) :: wsL_law) rm_X3_allTrueOf [.ref (q 20), .ref (q 8), .int person] (wSee cI q sn ss sb sp ++ wTown cI q tb tp tr knd sec brd rms) (wSee cI q sn ss sb sp ++ wTown cI q tb tp tr knd sec brd rms) (f_X3_allTrueOf sn ss sb sp knd sec person) := by
  refine CI.of (cc := cX3_allTrueOf) (maxL := 4) (ty := .boolean) (by decide) rfl (Nat.le_of_ble_eq_true rfl) (nb_X3_allTrueOf _ _ _ _ _ _ _ _) ?_
  intro p e s m args below meth c A Q ls hx hb hml hts0 hown hA hP hK hD hE hl hret
  have hts : ∀ w ∈ wsL_law, w.before args s = true := fun w h => hts0 w (List.mem_cons_of_mem _ h)
  clear hts0
  have hown : s.vm.findClass RX3 = some m.cls := hown
  have hl : lv_has ls 4 [(0, .ref (q 20)), (1, .ref (q 8)), (2, .int person)] := hl
  have hS : va_S A s.heap s.heap [] := va_S.rf
  revert hP hS
  suffices hgo : ∀ (H : Heap) (locs : List Loc), va_P D vwCl (wSee cI q sn ss sb sp ++ wTown cI q tb tp tr knd sec brd rms) H → va_S A s.heap H locs → W p l e rm_X3_allTrueOf s m args below meth c H locs 0 0 Q (F0 m 0 ls []) from fun a b => hgo _ _ a b
  intro H locs hP hS
  refine lv_iconst (v := 0) hx hb dX3_allTrueOf_0 (by decide) ?_
  refine lv_istore_n (lv' := [(3, .int 0), (0, .ref (q 20)), (1, .ref (q 8)), (2, .int person)]) hx hb dX3_allTrueOf_1 rfl hl (by decide) rfl (fun ls hl => ?_)
  have lp2 : ∀ (k2 i : Nat), i + k2 = sn.toNatClampNeg → lo_X3_allTrueOf_2 ss sb sp knd sec person k2 i = (f_X3_allTrueOf sn ss sb sp knd sec person) → ∀ (H : Heap) (locs : List Loc) (ls : Array Slot), va_P D vwCl (wSee cI q sn ss sb sp ++ wTown cI q tb tp tr knd sec brd rms) H → va_D A (wSee cI q sn ss sb sp ++ wTown cI q tb tp tr knd sec brd rms) → va_S A s.heap H locs → lv_has ls 4 [(0, .ref (q 20)), (1, .ref (q 8)), (2, .int person), (3, .int (nI i))] → W p l e rm_X3_allTrueOf s m args below meth c H locs 0 0 Q (F0 m 2 ls []) := by
    intro k2
    induction k2 with
    | zero =>
      intro i hi2 ea2 H locs ls hP hD hS hl
      have hi2 : sn.toNatClampNeg = i := by omega
      subst hi2
      refine lv_iload_n hx hb dX3_allTrueOf_2 rfl (lv_at hl 3 rfl) ?_
      refine lv_aload_n hx hb dX3_allTrueOf_3 rfl (lv_at hl 0 rfl) ?_
      refine va_get (D := D) (ci := 3) (v := .int sn) (C := RX3) (T := TX3) (N := 4) hx hb hts inlX3 hown hK hP 0 rfl rfl 0 (by decide) (kw hts kin_16 14 rfl) (fun _ h9 => h9) rfl dX3_allTrueOf_4 ?_
      refine lv_icmp_ge (tgt := 50) hx hb dX3_allTrueOf_7 (by decide) (fun _ => ?_) (fun c_7 => absurd (kle_clamp _) c_7)
      refine lv_iconst (v := 1) hx hb dX3_allTrueOf_50 (by decide) ?_
      have hf : (f_X3_allTrueOf sn ss sb sp knd sec person) = 1 := (ea2).symm.trans rfl
      rw [hf] at hret
      exact hret _ _ _ _ hP hS dX3_allTrueOf_51
    | succ k2 ih2 =>
      intro i hi2 ea2 H locs ls hP hD hS hl
      have hlt2 : i < sn.toNatClampNeg := by omega
      refine lv_iload_n hx hb dX3_allTrueOf_2 rfl (lv_at hl 3 rfl) ?_
      refine lv_aload_n hx hb dX3_allTrueOf_3 rfl (lv_at hl 0 rfl) ?_
      refine va_get (D := D) (ci := 3) (v := .int sn) (C := RX3) (T := TX3) (N := 4) hx hb hts inlX3 hown hK hP 0 rfl rfl 0 (by decide) (kw hts kin_16 14 rfl) (fun _ h9 => h9) rfl dX3_allTrueOf_4 ?_
      refine lv_icmp_ge (tgt := 50) hx hb dX3_allTrueOf_7 (by decide) (fun c_7 => absurd c_7 (klt_clamp hlt2)) (fun _ => ?_)
      refine lv_aload_n hx hb dX3_allTrueOf_10 rfl (lv_at hl 1 rfl) ?_
      refine lv_iload_n hx hb dX3_allTrueOf_11 rfl (lv_at hl 2 rfl) ?_
      refine lv_aload_n hx hb dX3_allTrueOf_12 rfl (lv_at hl 0 rfl) ?_
      refine va_get (D := D) (ci := 3) (v := .ref (q 21)) (C := RX3) (T := TX3) (N := 4) hx hb hts inlX3 hown hK hP 0 rfl rfl 1 (by decide) (kw hts kin_4 7 rfl) (fun _ h9 => h9) rfl dX3_allTrueOf_13 ?_
      refine lv_iload_n hx hb dX3_allTrueOf_16 rfl (lv_at hl 3 rfl) ?_
      refine kvi (As := [.int (nI i)]) (rest := [.int person, .ref (q 8)]) (q0 := 0) (ci := 0) ⟨hx, hb, hml, hown, hts⟩ hP hK hD hS hA hE (k_X0_at l D cI cZ adK adV (q 21) (q 22) 6 ss (nI i) (by decide)) (kcv hts kM_X0_at (kin_32 _ (List.mem_of_getElem? (i := 14) rfl)) ⟨rfl, rfl⟩ ⟨Nat.le_of_ble_eq_true rfl, Nat.le_of_ble_eq_true rfl⟩) kBl_G kOk_G (wSee cI q sn ss sb sp ++ wTown cI q tb tp tr knd sec brd rms) (cut_seetown_row_1_2 cI q sn ss sb sp tb tp tr knd sec brd rms ss).1 (cut_seetown_row_1_2 cI q sn ss sb sp tb tp tr knd sec brd rms ss).2 rfl rfl rfl rfl hl.1 rfl (Nat.le_of_ble_eq_true rfl) dX3_allTrueOf_17 (fun H locs hP hD hS => ?_)
      refine lv_aload_n hx hb dX3_allTrueOf_20 rfl (lv_at hl 0 rfl) ?_
      refine va_get (D := D) (ci := 3) (v := .ref (q 23)) (C := RX3) (T := TX3) (N := 4) hx hb hts inlX3 hown hK hP 0 rfl rfl 2 (by decide) (kw hts kin_4 8 rfl) (fun _ h9 => h9) rfl dX3_allTrueOf_21 ?_
      refine lv_iload_n hx hb dX3_allTrueOf_24 rfl (lv_at hl 3 rfl) ?_
      refine kvi (As := [.int (nI i)]) (rest := [.int (f_X0_at 6 ss (nI i)), .int person, .ref (q 8)]) (q0 := 0) (ci := 0) ⟨hx, hb, hml, hown, hts⟩ hP hK hD hS hA hE (k_X0_at l D cI cZ adK adV (q 23) (q 24) 6 sb (nI i) (by decide)) (kcv hts kM_X0_at (kin_32 _ (List.mem_of_getElem? (i := 14) rfl)) ⟨rfl, rfl⟩ ⟨Nat.le_of_ble_eq_true rfl, Nat.le_of_ble_eq_true rfl⟩) kBl_G kOk_G (wSee cI q sn ss sb sp ++ wTown cI q tb tp tr knd sec brd rms) (cut_seetown_row_3_4 cI q sn ss sb sp tb tp tr knd sec brd rms sb).1 (cut_seetown_row_3_4 cI q sn ss sb sp tb tp tr knd sec brd rms sb).2 rfl rfl rfl rfl hl.1 rfl (Nat.le_of_ble_eq_true rfl) dX3_allTrueOf_25 (fun H locs hP hD hS => ?_)
      refine kvi (As := [.int person, .int (f_X0_at 6 ss (nI i)), .int (f_X0_at 6 sb (nI i))]) (rest := []) (q0 := 0) (ci := 5) ⟨hx, hb, hml, hown, hts⟩ hP hK hD hS hA hE (k_X5_wouldTell l D cI cZ adK adV q tb tp tr knd sec brd rms person (f_X0_at 6 ss (nI i)) (f_X0_at 6 sb (nI i))) (kcv hts kM_X5_wouldTell (kin_32 _ (List.mem_of_getElem? (i := 15) rfl)) ⟨rfl, rfl⟩ ⟨Nat.le_of_ble_eq_true rfl, Nat.le_of_ble_eq_true rfl⟩) kBl_G kOk_G (wSee cI q sn ss sb sp ++ wTown cI q tb tp tr knd sec brd rms) (cut_seetown_town cI q sn ss sb sp tb tp tr knd sec brd rms tb tp tr knd sec brd rms).1 (cut_seetown_town cI q sn ss sb sp tb tp tr knd sec brd rms tb tp tr knd sec brd rms).2 rfl rfl rfl rfl hl.1 rfl (Nat.le_of_ble_eq_true rfl) dX3_allTrueOf_28 (fun H locs hP hD hS => ?_)
      refine lv_aload_n hx hb dX3_allTrueOf_31 rfl (lv_at hl 0 rfl) ?_
      refine va_get (D := D) (ci := 3) (v := .ref (q 25)) (C := RX3) (T := TX3) (N := 4) hx hb hts inlX3 hown hK hP 0 rfl rfl 3 (by decide) (kw hts kin_4 9 rfl) (fun _ h9 => h9) rfl dX3_allTrueOf_32 ?_
      refine lv_iload_n hx hb dX3_allTrueOf_35 rfl (lv_at hl 3 rfl) ?_
      refine kvi (As := [.int (nI i)]) (rest := [.int (f_X5_wouldTell knd sec person (f_X0_at 6 ss (nI i)) (f_X0_at 6 sb (nI i)))]) (q0 := 0) (ci := 0) ⟨hx, hb, hml, hown, hts⟩ hP hK hD hS hA hE (k_X0_at l D cI cZ adK adV (q 25) (q 26) 6 sp (nI i) (by decide)) (kcv hts kM_X0_at (kin_32 _ (List.mem_of_getElem? (i := 14) rfl)) ⟨rfl, rfl⟩ ⟨Nat.le_of_ble_eq_true rfl, Nat.le_of_ble_eq_true rfl⟩) kBl_G kOk_G (wSee cI q sn ss sb sp ++ wTown cI q tb tp tr knd sec brd rms) (cut_seetown_row_5_6 cI q sn ss sb sp tb tp tr knd sec brd rms sp).1 (cut_seetown_row_5_6 cI q sn ss sb sp tb tp tr knd sec brd rms sp).2 rfl rfl rfl rfl hl.1 rfl (Nat.le_of_ble_eq_true rfl) dX3_allTrueOf_36 (fun H locs hP hD hS => ?_)
      refine lv_icmp_eq (tgt := 44) hx hb dX3_allTrueOf_39 (by decide) (fun c_39 => ?_) (fun c_39 => ?_)
      · skip
        refine lv_iinc (v := (nI (i + 1))) (lv' := [(3, .int (nI (i + 1))), (0, .ref (q 20)), (1, .ref (q 8)), (2, .int person)]) hx hb dX3_allTrueOf_44 hl (k := 3) rfl (nI_1 i) (by decide) rfl (fun ls hl => ?_)
        refine lv_goto (tgt := 2) hx hb dX3_allTrueOf_47 (by decide) ?_
        have hb2 : lo_X3_allTrueOf_2 ss sb sp knd sec person (k2 + 1) i = lo_X3_allTrueOf_2 ss sb sp knd sec person k2 (i + 1) := (if_pos c_39)
        exact ih2 (i + 1) (by omega) (hb2.symm.trans ea2) _ _ _ hP hD hS (lv_sub hl [1, 2, 3, 0] rfl)
      · skip
        refine lv_iconst (v := 0) hx hb dX3_allTrueOf_42 (by decide) ?_
        have hf : (f_X3_allTrueOf sn ss sb sp knd sec person) = 0 := (ea2).symm.trans (if_neg c_39)
        rw [hf] at hret
        exact hret _ _ _ _ hP hS dX3_allTrueOf_43
  exact lp2 sn.toNatClampNeg 0 (Nat.zero_add _) (Eq.symm (rfl : (f_X3_allTrueOf sn ss sb sp knd sec person) = lo_X3_allTrueOf_2 ss sb sp knd sec person sn.toNatClampNeg 0)) _ _ _ hP hD hS (lv_sub hl [1, 2, 3, 0] rfl)
