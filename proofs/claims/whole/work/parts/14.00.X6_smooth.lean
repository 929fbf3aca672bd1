def v_X6_smooth_74_0 (tr : Int32) (knd : Nat → Int32) (sec : Nat → Int32) (rms : Nat → Int32) (std : Nat → Int32) (barber : Int32) (person : Int32) (m_ : Int32) (i : Nat) (x56_6 : Int32) (x56_7 : Int32) : Int32 := if (f_J6_bitCount_0f7a4 (nI i)) ≤ x56_7 then x56_6 else (if (f_X6_fittingBehind tr rms std barber person ((nI i) &&& (f_X6_stripsTelling knd sec std person)) (f_X6_partsTold knd sec std person)) < m_ then x56_6 else (nI i))
def v_X6_smooth_74_1 (tr : Int32) (knd : Nat → Int32) (sec : Nat → Int32) (rms : Nat → Int32) (std : Nat → Int32) (barber : Int32) (person : Int32) (m_ : Int32) (i : Nat) (x56_7 : Int32) : Int32 := if (f_J6_bitCount_0f7a4 (nI i)) ≤ x56_7 then x56_7 else (if (f_X6_fittingBehind tr rms std barber person ((nI i) &&& (f_X6_stripsTelling knd sec std person)) (f_X6_partsTold knd sec std person)) < m_ then x56_7 else (f_J6_bitCount_0f7a4 (nI i)))
def nx_X6_smooth_56 (tr : Int32) (knd : Nat → Int32) (sec : Nat → Int32) (rms : Nat → Int32) (std : Nat → Int32) (barber : Int32) (person : Int32) (m_ : Int32) (i : Nat) (x56_6 : Int32) (x56_7 : Int32) : Int32 × Int32 := ((v_X6_smooth_74_0 tr knd sec rms std barber person m_ i x56_6 x56_7), (v_X6_smooth_74_1 tr knd sec rms std barber person m_ i x56_7))
def x_X6_smooth_56 (tr : Int32) (knd : Nat → Int32) (sec : Nat → Int32) (rms : Nat → Int32) (std : Nat → Int32) (barber : Int32) (person : Int32) (m_ : Int32) : Int32 × Int32 := lp (fun iz z => nx_X6_smooth_56 tr knd sec rms std barber person m_ iz z.1 z.2) ((-1), (-1)) 64
def f_X6_smooth (tb : Int32) (tp : Int32) (tr : Int32) (knd : Nat → Int32) (sec : Nat → Int32) (rms : Nat → Int32) (std : Nat → Int32) (barber : Int32) (person : Int32) (m_ : Int32) : Int32 := if (f_X6_isBarber tb barber) = 0 then (-2) else (if (f_X6_isPerson tp person) = 0 then (-2) else (if m_ < 1 then (-3) else (if m_ ≤ 8 then ((x_X6_smooth_56 tr knd sec rms std barber person m_).1) else (-3))))
abbrev rm_X6_smooth : Room := { frames := 5, cells := 0, slots := 0, locals := 110 }
set_option maxRecDepth 100000 in
set_option maxHeartbeats 4000000 in
theorem k_X6_smooth (l : Launch) (D : va_G) (cI cZ : ClassId) (adK adV : Nat → Nat) (q : Nat → Nat) (lat : Int32) (und : Int32) (kpl : Int32) (len : Int32) (ncl : Int32) (spe : Int32) (sru : Int32) (sbe : Int32) (sen : Int32) (lets : Nat → Int32) (wrds : Nat → Int32) (nums : Nat → Int32) (tb : Int32) (tp : Int32) (tr : Int32) (knd : Nat → Int32) (sec : Nat → Int32) (brd : Nat → Int32) (rms : Nat → Int32) (std : Nat → Int32) (sn : Int32) (ss : Nat → Int32) (sb : Nat → Int32) (sp : Nat → Int32) (past : Nat → Int32) (kept : Nat → Int32) (barber : Int32) (person : Int32) (m_ : Int32) : CI l D (kTy cI cZ) (kG adK adV) yX6_smooth (.code yX6_smooth cX6_smooth 10 (some .int) :: wsL_law) rm_X6_smooth [.ref (q 0), .int barber, .int person, .int m_] (wC cI q lat und kpl len ncl spe sru sbe sen lets wrds nums tb tp tr knd sec brd rms std sn ss sb sp past kept) (wC cI q lat und kpl len ncl spe sru sbe sen lets wrds nums tb tp tr knd sec brd rms std sn ss sb sp past kept) (f_X6_smooth tb tp tr knd sec rms std barber person m_) := by
  refine CI.of (cc := cX6_smooth) (maxL := 10) (ty := .int) (by decide) rfl (Nat.le_of_ble_eq_true rfl) rfl ?_
  intro p e s m args below meth c A Q ls hx hb hml hts0 hown hA hP hK hD hE hl hret
  have hts : ∀ w ∈ wsL_law, w.before args s = true := fun w h => hts0 w (List.mem_cons_of_mem _ h)
  clear hts0
  have hown : s.vm.findClass RX6 = some m.cls := hown
  have hl : lv_has ls 10 [(0, .ref (q 0)), (1, .int barber), (2, .int person), (3, .int m_)] := hl
  have hS : va_S A s.heap s.heap [] := va_S.rf
  revert hP hS
  suffices hgo : ∀ (H : Heap) (locs : List Loc), va_P D vwCl (wC cI q lat und kpl len ncl spe sru sbe sen lets wrds nums tb tp tr knd sec brd rms std sn ss sb sp past kept) H → va_S A s.heap H locs → W p l e rm_X6_smooth s m args below meth c H locs 0 0 Q (F0 m 0 ls []) from fun a b => hgo _ _ a b
  intro H locs hP hS
  refine lv_aload_n hx hb dX6_smooth_0 rfl (lv_at hl 0 rfl) ?_
  refine lv_iload_n hx hb dX6_smooth_1 rfl (lv_at hl 1 rfl) ?_
  refine kvi (As := [.int barber]) (rest := []) (q0 := 0) (ci := 6) ⟨hx, hb, hml, hown, hts⟩ hP hK hD hS hA hE (k_X6_isBarber l D cI cZ adK adV q lat und kpl len ncl spe sru sbe sen lets wrds nums tb tp tr knd sec brd rms std sn ss sb sp past kept barber) (kcv hts kM_X6_isBarber (kin_20 _ (List.mem_of_getElem? (i := 10) rfl)) ⟨rfl, rfl⟩ ⟨Nat.le_of_ble_eq_true rfl, Nat.le_of_ble_eq_true rfl⟩) kBl_G kOk_G (wC cI q lat und kpl len ncl spe sru sbe sen lets wrds nums tb tp tr knd sec brd rms std sn ss sb sp past kept) (cut_c_c cI q lat und kpl len ncl spe sru sbe sen lets wrds nums tb tp tr knd sec brd rms std sn ss sb sp past kept lat und kpl len ncl spe sru sbe sen lets wrds nums tb tp tr knd sec brd rms std sn ss sb sp past kept).1 (cut_c_c cI q lat und kpl len ncl spe sru sbe sen lets wrds nums tb tp tr knd sec brd rms std sn ss sb sp past kept lat und kpl len ncl spe sru sbe sen lets wrds nums tb tp tr knd sec brd rms std sn ss sb sp past kept).2 rfl rfl rfl rfl hl.1 rfl (Nat.le_of_ble_eq_true rfl) dX6_smooth_2 (fun H locs hP hD hS => ?_)
  refine lv_if_eq (tgt := 16) hx hb dX6_smooth_5 (by decide) (fun c_5 => ?_) (fun c_5 => ?_)
  · skip
    refine lv_bipush (v := (-2)) hx hb dX6_smooth_16 (by decide) ?_
    have hf : (f_X6_smooth tb tp tr knd sec rms std barber person m_) = (-2) := (if_pos c_5)
    rw [hf] at hret
    exact hret _ _ _ _ hP hS dX6_smooth_18
  · skip
    refine lv_aload_n hx hb dX6_smooth_8 rfl (lv_at hl 0 rfl) ?_
    refine lv_iload_n hx hb dX6_smooth_9 rfl (lv_at hl 2 rfl) ?_
    refine kvi (As := [.int person]) (rest := []) (q0 := 0) (ci := 6) ⟨hx, hb, hml, hown, hts⟩ hP hK hD hS hA hE (k_X6_isPerson l D cI cZ adK adV q lat und kpl len ncl spe sru sbe sen lets wrds nums tb tp tr knd sec brd rms std sn ss sb sp past kept person) (kcv hts kM_X6_isPerson (kin_17 _ (List.mem_of_getElem? (i := 1) rfl)) ⟨rfl, rfl⟩ ⟨Nat.le_of_ble_eq_true rfl, Nat.le_of_ble_eq_true rfl⟩) kBl_G kOk_G (wC cI q lat und kpl len ncl spe sru sbe sen lets wrds nums tb tp tr knd sec brd rms std sn ss sb sp past kept) (cut_c_c cI q lat und kpl len ncl spe sru sbe sen lets wrds nums tb tp tr knd sec brd rms std sn ss sb sp past kept lat und kpl len ncl spe sru sbe sen lets wrds nums tb tp tr knd sec brd rms std sn ss sb sp past kept).1 (cut_c_c cI q lat und kpl len ncl spe sru sbe sen lets wrds nums tb tp tr knd sec brd rms std sn ss sb sp past kept lat und kpl len ncl spe sru sbe sen lets wrds nums tb tp tr knd sec brd rms std sn ss sb sp past kept).2 rfl rfl rfl rfl hl.1 rfl (Nat.le_of_ble_eq_true rfl) dX6_smooth_10 (fun H locs hP hD hS => ?_)
    refine lv_if_ne (tgt := 19) hx hb dX6_smooth_13 (by decide) (fun c_13 => ?_) (fun c_13 => ?_)
    · skip
      refine lv_iload_n hx hb dX6_smooth_19 rfl (lv_at hl 3 rfl) ?_
      refine lv_iconst (v := 1) hx hb dX6_smooth_20 (by decide) ?_
      refine lv_icmp_lt (tgt := 30) hx hb dX6_smooth_21 (by decide) (fun c_21 => ?_) (fun c_21 => ?_)
      · skip
        refine lv_bipush (v := (-3)) hx hb dX6_smooth_30 (by decide) ?_
        have hf : (f_X6_smooth tb tp tr knd sec rms std barber person m_) = (-3) := ((if_neg c_5).trans ((if_neg c_13).trans (if_pos c_21)))
        rw [hf] at hret
        exact hret _ _ _ _ hP hS dX6_smooth_32
      · skip
        refine lv_iload_n hx hb dX6_smooth_24 rfl (lv_at hl 3 rfl) ?_
        refine lv_bipush (v := 8) hx hb dX6_smooth_25 (by decide) ?_
        refine lv_icmp_le (tgt := 33) hx hb dX6_smooth_27 (by decide) (fun c_27 => ?_) (fun c_27 => ?_)
        · skip
          refine lv_aload_n hx hb dX6_smooth_33 rfl (lv_at hl 0 rfl) ?_
          refine lv_iload_n hx hb dX6_smooth_34 rfl (lv_at hl 2 rfl) ?_
          refine kvi (As := [.int person]) (rest := []) (q0 := 0) (ci := 6) ⟨hx, hb, hml, hown, hts⟩ hP hK hD hS hA hE (k_X6_stripsTelling l D cI cZ adK adV q lat und kpl len ncl spe sru sbe sen lets wrds nums tb tp tr knd sec brd rms std sn ss sb sp past kept person) (kcv hts kM_X6_stripsTelling (kin_28 _ (List.mem_of_getElem? (i := 15) rfl)) ⟨rfl, rfl⟩ ⟨Nat.le_of_ble_eq_true rfl, Nat.le_of_ble_eq_true rfl⟩) kBl_G kOk_G (wC cI q lat und kpl len ncl spe sru sbe sen lets wrds nums tb tp tr knd sec brd rms std sn ss sb sp past kept) (cut_c_c cI q lat und kpl len ncl spe sru sbe sen lets wrds nums tb tp tr knd sec brd rms std sn ss sb sp past kept lat und kpl len ncl spe sru sbe sen lets wrds nums tb tp tr knd sec brd rms std sn ss sb sp past kept).1 (cut_c_c cI q lat und kpl len ncl spe sru sbe sen lets wrds nums tb tp tr knd sec brd rms std sn ss sb sp past kept lat und kpl len ncl spe sru sbe sen lets wrds nums tb tp tr knd sec brd rms std sn ss sb sp past kept).2 rfl rfl rfl rfl hl.1 rfl (Nat.le_of_ble_eq_true rfl) dX6_smooth_35 (fun H locs hP hD hS => ?_)
          refine lv_istore (lv' := [(4, .int (f_X6_stripsTelling knd sec std person)), (0, .ref (q 0)), (1, .int barber), (2, .int person), (3, .int m_)]) hx hb dX6_smooth_38 hl (by decide) rfl (fun ls hl => ?_)
          refine lv_aload_n hx hb dX6_smooth_40 rfl (lv_at hl 1 rfl) ?_
          refine lv_iload_n hx hb dX6_smooth_41 rfl (lv_at hl 3 rfl) ?_
          refine kvi (As := [.int person]) (rest := []) (q0 := 0) (ci := 6) ⟨hx, hb, hml, hown, hts⟩ hP hK hD hS hA hE (k_X6_partsTold l D cI cZ adK adV q lat und kpl len ncl spe sru sbe sen lets wrds nums tb tp tr knd sec brd rms std sn ss sb sp past kept person) (kcv hts kM_X6_partsTold (kin_28 _ (List.mem_of_getElem? (i := 19) rfl)) ⟨rfl, rfl⟩ ⟨Nat.le_of_ble_eq_true rfl, Nat.le_of_ble_eq_true rfl⟩) kBl_G kOk_G (wC cI q lat und kpl len ncl spe sru sbe sen lets wrds nums tb tp tr knd sec brd rms std sn ss sb sp past kept) (cut_c_c cI q lat und kpl len ncl spe sru sbe sen lets wrds nums tb tp tr knd sec brd rms std sn ss sb sp past kept lat und kpl len ncl spe sru sbe sen lets wrds nums tb tp tr knd sec brd rms std sn ss sb sp past kept).1 (cut_c_c cI q lat und kpl len ncl spe sru sbe sen lets wrds nums tb tp tr knd sec brd rms std sn ss sb sp past kept lat und kpl len ncl spe sru sbe sen lets wrds nums tb tp tr knd sec brd rms std sn ss sb sp past kept).2 rfl rfl rfl rfl hl.1 rfl (Nat.le_of_ble_eq_true rfl) dX6_smooth_42 (fun H locs hP hD hS => ?_)
          refine lv_istore (lv' := [(5, .int (f_X6_partsTold knd sec std person)), (4, .int (f_X6_stripsTelling knd sec std person)), (0, .ref (q 0)), (1, .int barber), (2, .int person), (3, .int m_)]) hx hb dX6_smooth_45 hl (by decide) rfl (fun ls hl => ?_)
          refine lv_iconst (v := (-1)) hx hb dX6_smooth_47 (by decide) ?_
          refine lv_istore (lv' := [(6, .int (-1)), (5, .int (f_X6_partsTold knd sec std person)), (4, .int (f_X6_stripsTelling knd sec std person)), (0, .ref (q 0)), (1, .int barber), (2, .int person), (3, .int m_)]) hx hb dX6_smooth_48 hl (by decide) rfl (fun ls hl => ?_)
          refine lv_iconst (v := (-1)) hx hb dX6_smooth_50 (by decide) ?_
          refine lv_istore (lv' := [(7, .int (-1)), (6, .int (-1)), (5, .int (f_X6_partsTold knd sec std person)), (4, .int (f_X6_stripsTelling knd sec std person)), (0, .ref (q 0)), (1, .int barber), (2, .int person), (3, .int m_)]) hx hb dX6_smooth_51 hl (by decide) rfl (fun ls hl => ?_)
          refine lv_iconst (v := 0) hx hb dX6_smooth_53 (by decide) ?_
          refine lv_istore (lv' := [(8, .int 0), (7, .int (-1)), (6, .int (-1)), (5, .int (f_X6_partsTold knd sec std person)), (4, .int (f_X6_stripsTelling knd sec std person)), (0, .ref (q 0)), (1, .int barber), (2, .int person), (3, .int m_)]) hx hb dX6_smooth_54 hl (by decide) rfl (fun ls hl => ?_)
          have lp56 : ∀ (k56 i : Nat) (x56_6 : Int32) (x56_7 : Int32), i + k56 = 64 → (x56_6, x56_7) = lp (fun iz z => nx_X6_smooth_56 tr knd sec rms std barber person m_ iz z.1 z.2) ((-1), (-1)) i → ∀ (H : Heap) (locs : List Loc) (ls : Array Slot), va_P D vwCl (wC cI q lat und kpl len ncl spe sru sbe sen lets wrds nums tb tp tr knd sec brd rms std sn ss sb sp past kept) H → va_D A (wC cI q lat und kpl len ncl spe sru sbe sen lets wrds nums tb tp tr knd sec brd rms std sn ss sb sp past kept) → va_S A s.heap H locs → lv_has ls 10 [(0, .ref (q 0)), (1, .int barber), (2, .int person), (3, .int m_), (4, .int (f_X6_stripsTelling knd sec std person)), (5, .int (f_X6_partsTold knd sec std person)), (6, .int x56_6), (7, .int x56_7), (8, .int (nI i))] → W p l e rm_X6_smooth s m args below meth c H locs 0 0 Q (F0 m 56 ls []) := by
            intro k56
            induction k56 with
            | zero =>
              intro i x56_6 x56_7 hi56 ea56 H locs ls hP hD hS hl
              have hi56 : 64 = i := by omega
              subst hi56
              have ea56 : (x56_6, x56_7) = (x_X6_smooth_56 tr knd sec rms std barber person m_) := ea56
              have e56_0 : x56_6 = ((x_X6_smooth_56 tr knd sec rms std barber person m_).1) := (kfst ea56)
              have e56_1 : x56_7 = ((x_X6_smooth_56 tr knd sec rms std barber person m_).2) := (ksnd ea56)
              clear ea56
              have hl : lv_has ls 10 [(0, .ref (q 0)), (1, .int barber), (2, .int person), (3, .int m_), (4, .int (f_X6_stripsTelling knd sec std person)), (5, .int (f_X6_partsTold knd sec std person)), (6, .int ((x_X6_smooth_56 tr knd sec rms std barber person m_).1)), (7, .int ((x_X6_smooth_56 tr knd sec rms std barber person m_).2)), (8, .int (nI 64))] := by rw [← e56_0, ← e56_1]; exact hl
              refine lv_iload hx hb dX6_smooth_56 (lv_at hl 8 rfl) ?_
              refine lv_bipush (v := 64) hx hb dX6_smooth_58 (by decide) ?_
              refine lv_icmp_ge (tgt := 108) hx hb dX6_smooth_60 (by decide) (fun _ => ?_) (fun c_60 => absurd (nI_le (Nat.le_refl _) (by decide)) c_60)
              refine lv_iload hx hb dX6_smooth_108 (lv_at hl 6 rfl) ?_
              have hf : (f_X6_smooth tb tp tr knd sec rms std barber person m_) = ((x_X6_smooth_56 tr knd sec rms std barber person m_).1) := ((if_neg c_5).trans ((if_neg c_13).trans ((if_neg c_21).trans (if_pos c_27))))
              rw [hf] at hret
              exact hret _ _ _ _ hP hS dX6_smooth_110
            | succ k56 ih56 =>
              intro i x56_6 x56_7 hi56 ea56 H locs ls hP hD hS hl
              have hlt56 : i < 64 := by omega
              refine lv_iload hx hb dX6_smooth_56 (lv_at hl 8 rfl) ?_
              refine lv_bipush (v := 64) hx hb dX6_smooth_58 (by decide) ?_
              refine lv_icmp_ge (tgt := 108) hx hb dX6_smooth_60 (by decide) (fun c_60 => absurd c_60 (nI_ge hlt56 (by decide))) (fun _ => ?_)
              refine lv_iload hx hb dX6_smooth_63 (lv_at hl 8 rfl) ?_
              refine ksi (As := [.int (nI i)]) (rest := []) ⟨hx, hb, hml, hown, hts⟩ hP hK hD hS hA hE (k_J6_bitCount_0f7a4 l D cI cZ adK adV (nI i)) (kcs hts kM_J6_bitCount_0f7a4 (kin_26 _ (List.mem_of_getElem? (i := 13) rfl)) ⟨rfl, rfl⟩ ⟨Nat.le_of_ble_eq_true rfl, Nat.le_of_ble_eq_true rfl⟩) kBl_G kOk_G rfl hl.1 rfl (Nat.le_of_ble_eq_true rfl) dX6_smooth_65 (fun H locs hP hD hS => ?_)
              refine lv_istore (lv' := [(9, .int (f_J6_bitCount_0f7a4 (nI i))), (0, .ref (q 0)), (1, .int barber), (2, .int person), (3, .int m_), (4, .int (f_X6_stripsTelling knd sec std person)), (5, .int (f_X6_partsTold knd sec std person)), (6, .int x56_6), (7, .int x56_7), (8, .int (nI i))]) hx hb dX6_smooth_68 hl (by decide) rfl (fun ls hl => ?_)
              refine lv_iload hx hb dX6_smooth_70 (lv_at hl 0 rfl) ?_
              refine lv_iload hx hb dX6_smooth_72 (lv_at hl 8 rfl) ?_
              have J74 : ∀ (H : Heap) (locs : List Loc) (ls : Array Slot), va_P D vwCl (wC cI q lat und kpl len ncl spe sru sbe sen lets wrds nums tb tp tr knd sec brd rms std sn ss sb sp past kept) H → va_D A (wC cI q lat und kpl len ncl spe sru sbe sen lets wrds nums tb tp tr knd sec brd rms std sn ss sb sp past kept) → va_S A s.heap H locs → lv_has ls 10 [(0, .ref (q 0)), (1, .int barber), (2, .int person), (3, .int m_), (4, .int (f_X6_stripsTelling knd sec std person)), (5, .int (f_X6_partsTold knd sec std person)), (6, .int (v_X6_smooth_74_0 tr knd sec rms std barber person m_ i x56_6 x56_7)), (7, .int (v_X6_smooth_74_1 tr knd sec rms std barber person m_ i x56_7)), (8, .int (nI i)), (9, .int (f_J6_bitCount_0f7a4 (nI i)))] → W p l e rm_X6_smooth s m args below meth c H locs 0 0 Q (F0 m 102 ls []) := by
                intro H locs ls hP hD hS hl
                refine lv_iinc (v := (nI (i + 1))) (lv' := [(8, .int (nI (i + 1))), (0, .ref (q 0)), (1, .int barber), (2, .int person), (3, .int m_), (4, .int (f_X6_stripsTelling knd sec std person)), (5, .int (f_X6_partsTold knd sec std person)), (6, .int (v_X6_smooth_74_0 tr knd sec rms std barber person m_ i x56_6 x56_7)), (7, .int (v_X6_smooth_74_1 tr knd sec rms std barber person m_ i x56_7)), (9, .int (f_J6_bitCount_0f7a4 (nI i)))]) hx hb dX6_smooth_102 hl (k := 8) rfl (nI_1 i) (by decide) rfl (fun ls hl => ?_)
                refine lv_goto (tgt := 56) hx hb dX6_smooth_105 (by decide) ?_
                have hb56 : nx_X6_smooth_56 tr knd sec rms std barber person m_ i x56_6 x56_7 = ((v_X6_smooth_74_0 tr knd sec rms std barber person m_ i x56_6 x56_7), (v_X6_smooth_74_1 tr knd sec rms std barber person m_ i x56_7)) := rfl
                have hs56 : (lp (fun iz z => nx_X6_smooth_56 tr knd sec rms std barber person m_ iz z.1 z.2) ((-1), (-1)) (i + 1) : Int32 × Int32) = nx_X6_smooth_56 tr knd sec rms std barber person m_ i ((lp (fun iz z => nx_X6_smooth_56 tr knd sec rms std barber person m_ iz z.1 z.2) ((-1), (-1)) i : Int32 × Int32).1) ((lp (fun iz z => nx_X6_smooth_56 tr knd sec rms std barber person m_ iz z.1 z.2) ((-1), (-1)) i : Int32 × Int32).2) := lp_succ _ _ _
                rw [← ea56] at hs56
                exact ih56 (i + 1) (v_X6_smooth_74_0 tr knd sec rms std barber person m_ i x56_6 x56_7) (v_X6_smooth_74_1 tr knd sec rms std barber person m_ i x56_7) (by omega) (hb56.symm.trans hs56.symm) _ _ _ hP hD hS (lv_sub hl [1, 2, 3, 4, 5, 6, 7, 8, 0] rfl)
              refine lv_icmp_le (tgt := 102) hx hb dX6_smooth_74 (by decide) (fun c_74 => ?_) (fun c_74 => ?_)
              · skip
                rw [show (v_X6_smooth_74_0 tr knd sec rms std barber person m_ i x56_6 x56_7) = x56_6 from (if_pos c_74)] at J74
                rw [show (v_X6_smooth_74_1 tr knd sec rms std barber person m_ i x56_7) = x56_7 from (if_pos c_74)] at J74
                exact J74 _ _ _ hP hD hS (lv_sub hl [1, 2, 3, 4, 5, 6, 7, 8, 9, 0] rfl)
              · skip
                refine lv_aload_n hx hb dX6_smooth_77 rfl (lv_at hl 1 rfl) ?_
                refine lv_iload_n hx hb dX6_smooth_78 rfl (lv_at hl 2 rfl) ?_
                refine lv_iload_n hx hb dX6_smooth_79 rfl (lv_at hl 3 rfl) ?_
                refine lv_iload hx hb dX6_smooth_80 (lv_at hl 9 rfl) ?_
                refine lv_iload hx hb dX6_smooth_82 (lv_at hl 5 rfl) ?_
                refine lv_iand hx hb dX6_smooth_84 ?_
                refine lv_iload hx hb dX6_smooth_85 (lv_at hl 6 rfl) ?_
                refine kvi (As := [.int barber, .int person, .int ((nI i) &&& (f_X6_stripsTelling knd sec std person)), .int (f_X6_partsTold knd sec std person)]) (rest := []) (q0 := 0) (ci := 6) ⟨hx, hb, hml, hown, hts⟩ hP hK hD hS hA hE (k_X6_fittingBehind l D cI cZ adK adV q lat und kpl len ncl spe sru sbe sen lets wrds nums tb tp tr knd sec brd rms std sn ss sb sp past kept barber person ((nI i) &&& (f_X6_stripsTelling knd sec std person)) (f_X6_partsTold knd sec std person)) (kcv hts kM_X6_fittingBehind (kin_28 _ (List.mem_of_getElem? (i := 23) rfl)) ⟨rfl, rfl⟩ ⟨Nat.le_of_ble_eq_true rfl, Nat.le_of_ble_eq_true rfl⟩) kBl_G kOk_G (wC cI q lat und kpl len ncl spe sru sbe sen lets wrds nums tb tp tr knd sec brd rms std sn ss sb sp past kept) (cut_c_c cI q lat und kpl len ncl spe sru sbe sen lets wrds nums tb tp tr knd sec brd rms std sn ss sb sp past kept lat und kpl len ncl spe sru sbe sen lets wrds nums tb tp tr knd sec brd rms std sn ss sb sp past kept).1 (cut_c_c cI q lat und kpl len ncl spe sru sbe sen lets wrds nums tb tp tr knd sec brd rms std sn ss sb sp past kept lat und kpl len ncl spe sru sbe sen lets wrds nums tb tp tr knd sec brd rms std sn ss sb sp past kept).2 rfl rfl rfl rfl hl.1 rfl (Nat.le_of_ble_eq_true rfl) dX6_smooth_87 (fun H locs hP hD hS => ?_)
                refine lv_iload_n hx hb dX6_smooth_90 rfl (lv_at hl 4 rfl) ?_
                refine lv_icmp_lt (tgt := 102) hx hb dX6_smooth_91 (by decide) (fun c_91 => ?_) (fun c_91 => ?_)
                · skip
                  rw [show (v_X6_smooth_74_0 tr knd sec rms std barber person m_ i x56_6 x56_7) = x56_6 from ((if_neg c_74).trans (if_pos c_91))] at J74
                  rw [show (v_X6_smooth_74_1 tr knd sec rms std barber person m_ i x56_7) = x56_7 from ((if_neg c_74).trans (if_pos c_91))] at J74
                  exact J74 _ _ _ hP hD hS (lv_sub hl [1, 2, 3, 4, 5, 6, 7, 8, 9, 0] rfl)
                · skip
                  refine lv_iload hx hb dX6_smooth_94 (lv_at hl 9 rfl) ?_
                  refine lv_istore (lv' := [(6, .int (nI i)), (9, .int (f_J6_bitCount_0f7a4 (nI i))), (0, .ref (q 0)), (1, .int barber), (2, .int person), (3, .int m_), (4, .int (f_X6_stripsTelling knd sec std person)), (5, .int (f_X6_partsTold knd sec std person)), (7, .int x56_7), (8, .int (nI i))]) hx hb dX6_smooth_96 hl (by decide) rfl (fun ls hl => ?_)
                  refine lv_iload hx hb dX6_smooth_98 (lv_at hl 1 rfl) ?_
                  refine lv_istore (lv' := [(7, .int (f_J6_bitCount_0f7a4 (nI i))), (6, .int (nI i)), (9, .int (f_J6_bitCount_0f7a4 (nI i))), (0, .ref (q 0)), (1, .int barber), (2, .int person), (3, .int m_), (4, .int (f_X6_stripsTelling knd sec std person)), (5, .int (f_X6_partsTold knd sec std person)), (8, .int (nI i))]) hx hb dX6_smooth_100 hl (by decide) rfl (fun ls hl => ?_)
                  rw [show (v_X6_smooth_74_0 tr knd sec rms std barber person m_ i x56_6 x56_7) = (nI i) from ((if_neg c_74).trans (if_neg c_91))] at J74
                  rw [show (v_X6_smooth_74_1 tr knd sec rms std barber person m_ i x56_7) = (f_J6_bitCount_0f7a4 (nI i)) from ((if_neg c_74).trans (if_neg c_91))] at J74
                  exact J74 _ _ _ hP hD hS (lv_sub hl [3, 4, 5, 6, 7, 8, 1, 0, 9, 2] rfl)
          exact lp56 64 0 (-1) (-1) (Nat.zero_add _) (lp_zero _ _).symm _ _ _ hP hD hS (lv_sub hl [5, 6, 7, 8, 4, 3, 2, 1, 0] rfl)
        · skip
          refine lv_bipush (v := (-3)) hx hb dX6_smooth_30 (by decide) ?_
          have hf : (f_X6_smooth tb tp tr knd sec rms std barber person m_) = (-3) := ((if_neg c_5).trans ((if_neg c_13).trans ((if_neg c_21).trans (if_neg c_27))))
          rw [hf] at hret
          exact hret _ _ _ _ hP hS dX6_smooth_32
    · skip
      refine lv_bipush (v := (-2)) hx hb dX6_smooth_16 (by decide) ?_
      have hf : (f_X6_smooth tb tp tr knd sec rms std barber person m_) = (-2) := ((if_neg c_5).trans (if_pos c_13))
      rw [hf] at hret
      exact hret _ _ _ _ hP hS dX6_smooth_18
