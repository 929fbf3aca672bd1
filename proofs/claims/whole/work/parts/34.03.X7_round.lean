def nx_X7_round_45 (told : Nat → Int32) (person : Int32) (i_ : Int32) (i : Nat) (y45_w : Nat → Int32) : (Nat → Int32) := (f_X7_shaves y45_w told 255 (((nI i) + i_) - ((((nI i) + i_) / (told 0)) * (told 0))) person (nI i)).2
def x_X7_round_45 (w : Nat → Int32) (told : Nat → Int32) (person : Int32) (i_ : Int32) : (Nat → Int32) := lp (fun iz z => nx_X7_round_45 told person i_ iz z) (f_X7_copy w 0 255) 6
def f_X7_round (w : Nat → Int32) (told : Nat → Int32) (person : Int32) (i_ : Int32) (j_ : Int32) : Int32 × (Nat → Int32) := if (f_X7_isPerson told person) = 0 then ((-2), w) else (if (f_X7_isBarber told j_) = 0 then ((-2), w) else (if (f_X7_in i_.toInt64 0 5) = 0 then ((-3), w) else ((f_X7_many (f_X7_fitsOf (x_X7_round_45 w told person i_) told 255 j_ person)), (x_X7_round_45 w told person i_))))
abbrev rm_X7_round : Room := { frames := 2, cells := 0, slots := 0, locals := 51 }
set_option maxRecDepth 100000 in
set_option maxHeartbeats 4000000 in
theorem k_X7_round (l : Launch) (D : va_G) (cI cZ : ClassId) (u : Nat → Nat) (w : Nat → Int32) (told : Nat → Int32) (read : Nat → Int32) (isK : Nat → Int32) (undoes : Int32) (text : Nat → Int32) (texted : Int32) (seen : Int32) (seS : Nat → Int32) (seB : Nat → Int32) (seP : Nat → Int32) (at_ : Int32) (start : Int32) (clauses : Int32) (number : Int32) (word : Int64) (person : Int32) (i_ : Int32) (j_ : Int32) (hT0 : kb (told 0) 1 5) (hT1 : kb (told 1) 0 7) (hT2 : kb (told 2) 0 9) : CI l D (kTy cI cZ) kT yX7_round (.code yX7_round cX7_round 5 (some .int) :: wsL_law) rm_X7_round [.ref (u 0), .int person, .int i_, .int j_] (wM cI cZ u w told read isK undoes text texted seen seS seB seP at_ start clauses number word) (wM cI cZ u ((f_X7_round w told person i_ j_).2) told read isK undoes text texted seen seS seB seP at_ start clauses number word) ((f_X7_round w told person i_ j_).1) := by
  refine CI.of (cc := cX7_round) (maxL := 5) (ty := .int) (by decide) rfl (Nat.le_of_ble_eq_true rfl) rfl ?_
  intro p e s m args below meth c A Q ls hx hb hml hts0 hown hA hP hK hD hE hl hret
  have hts : ∀ w ∈ wsL_law, w.before args s = true := fun w h => hts0 w (List.mem_cons_of_mem _ h)
  clear hts0
  have hown : s.vm.findClass RX7 = some m.cls := hown
  have hl : lv_has ls 5 [(0, .ref (u 0)), (1, .int person), (2, .int i_), (3, .int j_)] := hl
  have hS : va_S A s.heap s.heap [] := va_S.rf
  revert hP hS
  suffices hgo : ∀ (H : Heap) (locs : List Loc), va_P D vwCl (wM cI cZ u w told read isK undoes text texted seen seS seB seP at_ start clauses number word) H → va_S A s.heap H locs → W p l e rm_X7_round s m args below meth c H locs 0 0 Q (F0 m 0 ls []) from fun a b => hgo _ _ a b
  intro H locs hP hS
  refine lv_aload_n hx hb dX7_round_0 rfl (lv_at hl 0 rfl) ?_
  refine lv_iload_n hx hb dX7_round_1 rfl (lv_at hl 1 rfl) ?_
  refine kvi (As := [.int person]) (rest := []) (q0 := 0) (ci := 7) ⟨hx, hb, hml, hown, hts⟩ hP hK hD hS hA hE (k_X7_isPerson l D cI cZ  u w told read isK undoes text texted seen seS seB seP at_ start clauses number word person) (kcv hts kM_X7_isPerson (kin_18 _ (List.mem_of_getElem? (i := 6) rfl)) ⟨rfl, rfl⟩ ⟨Nat.le_of_ble_eq_true rfl, Nat.le_of_ble_eq_true rfl⟩) kBl_T kOk_T (wM cI cZ u w told read isK undoes text texted seen seS seB seP at_ start clauses number word) (cut_m_m cI cZ u w told read isK undoes text texted seen seS seB seP at_ start clauses number word w told read isK undoes text texted seen seS seB seP at_ start clauses number word).1 (cut_m_m cI cZ u w told read isK undoes text texted seen seS seB seP at_ start clauses number word w told read isK undoes text texted seen seS seB seP at_ start clauses number word).2 rfl rfl rfl rfl hl.1 rfl (Nat.le_of_ble_eq_true rfl) dX7_round_2 (fun H locs hP hD hS => ?_)
  refine lv_if_eq (tgt := 16) hx hb dX7_round_5 (by decide) (fun c_5 => ?_) (fun c_5 => ?_)
  · skip
    refine lv_bipush (v := (-2)) hx hb dX7_round_16 (by decide) ?_
    have hf : (f_X7_round w told person i_ j_) = ((-2), w) := (if_pos c_5)
    rw [hf] at hret
    dsimp only at hret
    exact hret _ _ _ _ hP hS dX7_round_18
  · skip
    refine lv_aload_n hx hb dX7_round_8 rfl (lv_at hl 0 rfl) ?_
    refine lv_iload_n hx hb dX7_round_9 rfl (lv_at hl 3 rfl) ?_
    refine kvi (As := [.int j_]) (rest := []) (q0 := 0) (ci := 7) ⟨hx, hb, hml, hown, hts⟩ hP hK hD hS hA hE (k_X7_isBarber l D cI cZ  u w told read isK undoes text texted seen seS seB seP at_ start clauses number word j_) (kcv hts kM_X7_isBarber (kin_21 _ (List.mem_of_getElem? (i := 8) rfl)) ⟨rfl, rfl⟩ ⟨Nat.le_of_ble_eq_true rfl, Nat.le_of_ble_eq_true rfl⟩) kBl_T kOk_T (wM cI cZ u w told read isK undoes text texted seen seS seB seP at_ start clauses number word) (cut_m_m cI cZ u w told read isK undoes text texted seen seS seB seP at_ start clauses number word w told read isK undoes text texted seen seS seB seP at_ start clauses number word).1 (cut_m_m cI cZ u w told read isK undoes text texted seen seS seB seP at_ start clauses number word w told read isK undoes text texted seen seS seB seP at_ start clauses number word).2 rfl rfl rfl rfl hl.1 rfl (Nat.le_of_ble_eq_true rfl) dX7_round_10 (fun H locs hP hD hS => ?_)
    refine lv_if_ne (tgt := 19) hx hb dX7_round_13 (by decide) (fun c_13 => ?_) (fun c_13 => ?_)
    · skip
      refine lv_iload_n hx hb dX7_round_19 rfl (lv_at hl 2 rfl) ?_
      refine lv_i2l (v := i_.toInt64) hx hb dX7_round_20 rfl ?_
      refine lv_lconst (v := 0) hx hb dX7_round_21 (by decide) ?_
      refine lv_ldc2 (v := 5) hx hb hown (kw hts kin_19 9 rfl) dX7_round_22 ?_
      refine ksi (As := [.long i_.toInt64, .long 0, .long 5]) (rest := []) ⟨hx, hb, hml, hown, hts⟩ hP hK hD hS hA hE (k_X7_in l D cI cZ  i_.toInt64 0 5) (kcs hts kM_X7_in (kin_6 _ (List.mem_of_getElem? (i := 6) rfl)) ⟨rfl, rfl⟩ ⟨Nat.le_of_ble_eq_true rfl, Nat.le_of_ble_eq_true rfl⟩) kBl_T kOk_T rfl hl.1 rfl (Nat.le_of_ble_eq_true rfl) dX7_round_25 (fun H locs hP hD hS => ?_)
      refine lv_if_ne (tgt := 34) hx hb dX7_round_28 (by decide) (fun c_28 => ?_) (fun c_28 => ?_)
      · skip
        refine lv_aload_n hx hb dX7_round_34 rfl (lv_at hl 0 rfl) ?_
        refine lv_iconst (v := 0) hx hb dX7_round_35 (by decide) ?_
        refine lv_sipush (v := 255) hx hb dX7_round_36 (by decide) ?_
        refine kvv (As := [.int 0, .int 255]) (rest := []) (q0 := 0) (ci := 7) ⟨hx, hb, hml, hown, hts⟩ hP hK hD hS hA hE (k_X7_copy l D cI cZ  u w told read isK undoes text texted seen seS seB seP at_ start clauses number word 0 255 ((kb.lit 0).wide (by decide) (by decide)) ((kb.lit 255).wide (by decide) (by decide))) (kcv hts kM_X7_copy (kin_24 _ (List.mem_of_getElem? (i := 19) rfl)) ⟨rfl, rfl⟩ ⟨Nat.le_of_ble_eq_true rfl, Nat.le_of_ble_eq_true rfl⟩) kBl_T kOk_T (wM cI cZ u (f_X7_copy w 0 255) told read isK undoes text texted seen seS seB seP at_ start clauses number word) (cut_m_m cI cZ u w told read isK undoes text texted seen seS seB seP at_ start clauses number word (f_X7_copy w 0 255) told read isK undoes text texted seen seS seB seP at_ start clauses number word).1 (cut_m_m cI cZ u w told read isK undoes text texted seen seS seB seP at_ start clauses number word (f_X7_copy w 0 255) told read isK undoes text texted seen seS seB seP at_ start clauses number word).2 rfl rfl rfl rfl hl.1 rfl (Nat.le_of_ble_eq_true rfl) dX7_round_39 (fun H locs hP hD hS => ?_)
        refine lv_iconst (v := 0) hx hb dX7_round_42 (by decide) ?_
        refine lv_istore (lv' := [(4, .int 0), (0, .ref (u 0)), (1, .int person), (2, .int i_), (3, .int j_)]) hx hb dX7_round_43 hl (by decide) rfl (fun ls hl => ?_)
        have lp45 : ∀ (k45 i : Nat) (y45_w : Nat → Int32), i + k45 = 6 → y45_w = lp (fun iz z => nx_X7_round_45 told person i_ iz z) (f_X7_copy w 0 255) i → ∀ (H : Heap) (locs : List Loc) (ls : Array Slot), va_P D vwCl (wM cI cZ u y45_w told read isK undoes text texted seen seS seB seP at_ start clauses number word) H → va_D A (wM cI cZ u y45_w told read isK undoes text texted seen seS seB seP at_ start clauses number word) → va_S A s.heap H locs → lv_has ls 5 [(0, .ref (u 0)), (1, .int person), (2, .int i_), (3, .int j_), (4, .int (nI i))] → W p l e rm_X7_round s m args below meth c H locs 0 0 Q (F0 m 45 ls []) := by
          intro k45
          induction k45 with
          | zero =>
            intro i y45_w hi45 ea45 H locs ls hP hD hS hl
            have hi45 : 6 = i := by omega
            subst hi45
            have ea45 : y45_w = (x_X7_round_45 w told person i_) := ea45
            subst ea45
            refine lv_iload hx hb dX7_round_45 (lv_at hl 4 rfl) ?_
            refine lv_bipush (v := 6) hx hb dX7_round_47 (by decide) ?_
            refine lv_icmp_ge (tgt := 80) hx hb dX7_round_49 (by decide) (fun _ => ?_) (fun c_49 => absurd (nI_le (Nat.le_refl _) (by decide)) c_49)
            refine lv_aload_n hx hb dX7_round_80 rfl (lv_at hl 0 rfl) ?_
            refine lv_sipush (v := 255) hx hb dX7_round_81 (by decide) ?_
            refine lv_iload_n hx hb dX7_round_84 rfl (lv_at hl 3 rfl) ?_
            refine lv_iload_n hx hb dX7_round_85 rfl (lv_at hl 1 rfl) ?_
            refine kvi (As := [.int 255, .int j_, .int person]) (rest := []) (q0 := 0) (ci := 7) ⟨hx, hb, hml, hown, hts⟩ hP hK hD hS hA hE (k_X7_fitsOf l D cI cZ  u (x_X7_round_45 w told person i_) told read isK undoes text texted seen seS seB seP at_ start clauses number word 255 j_ person ((kb.lit 255).wide (by decide) (by decide)) ((kperson hT0 (by decide) c_13).wide (by decide) (by decide)) ((kperson hT1 (by decide) c_5).wide (by decide) (by decide)) (hT2.wide (by decide) (by decide))) (kcv hts kM_X7_fitsOf (kin_21 _ (List.mem_of_getElem? (i := 12) rfl)) ⟨rfl, rfl⟩ ⟨Nat.le_of_ble_eq_true rfl, Nat.le_of_ble_eq_true rfl⟩) kBl_T kOk_T (wM cI cZ u (x_X7_round_45 w told person i_) told read isK undoes text texted seen seS seB seP at_ start clauses number word) (cut_m_m cI cZ u (x_X7_round_45 w told person i_) told read isK undoes text texted seen seS seB seP at_ start clauses number word (x_X7_round_45 w told person i_) told read isK undoes text texted seen seS seB seP at_ start clauses number word).1 (cut_m_m cI cZ u (x_X7_round_45 w told person i_) told read isK undoes text texted seen seS seB seP at_ start clauses number word (x_X7_round_45 w told person i_) told read isK undoes text texted seen seS seB seP at_ start clauses number word).2 rfl rfl rfl rfl hl.1 rfl (Nat.le_of_ble_eq_true rfl) dX7_round_86 (fun H locs hP hD hS => ?_)
            refine ksi (As := [.int (f_X7_fitsOf (x_X7_round_45 w told person i_) told 255 j_ person)]) (rest := []) ⟨hx, hb, hml, hown, hts⟩ hP hK hD hS hA hE (k_X7_many l D cI cZ  (f_X7_fitsOf (x_X7_round_45 w told person i_) told 255 j_ person)) (kcs hts kM_X7_many (kin_29 _ (List.mem_of_getElem? (i := 16) rfl)) ⟨rfl, rfl⟩ ⟨Nat.le_of_ble_eq_true rfl, Nat.le_of_ble_eq_true rfl⟩) kBl_T kOk_T rfl hl.1 rfl (Nat.le_of_ble_eq_true rfl) dX7_round_89 (fun H locs hP hD hS => ?_)
            have hf : (f_X7_round w told person i_ j_) = ((f_X7_many (f_X7_fitsOf (x_X7_round_45 w told person i_) told 255 j_ person)), (x_X7_round_45 w told person i_)) := ((if_neg c_5).trans ((if_neg c_13).trans (if_neg c_28)))
            rw [hf] at hret
            dsimp only at hret
            exact hret _ _ _ _ hP hS dX7_round_92
          | succ k45 ih45 =>
            intro i y45_w hi45 ea45 H locs ls hP hD hS hl
            have hlt45 : i < 6 := by omega
            refine lv_iload hx hb dX7_round_45 (lv_at hl 4 rfl) ?_
            refine lv_bipush (v := 6) hx hb dX7_round_47 (by decide) ?_
            refine lv_icmp_ge (tgt := 80) hx hb dX7_round_49 (by decide) (fun c_49 => absurd c_49 (nI_ge hlt45 (by decide))) (fun _ => ?_)
            refine lv_aload_n hx hb dX7_round_52 rfl (lv_at hl 0 rfl) ?_
            refine lv_sipush (v := 255) hx hb dX7_round_53 (by decide) ?_
            refine lv_iload hx hb dX7_round_56 (lv_at hl 4 rfl) ?_
            refine lv_iload_n hx hb dX7_round_58 rfl (lv_at hl 2 rfl) ?_
            refine lv_iadd hx hb dX7_round_59 ?_
            refine lv_aload_n hx hb dX7_round_60 rfl (lv_at hl 0 rfl) ?_
            refine va_get (D := D) (ci := 7) (v := .ref (u 2)) (C := RX7) (T := TX7) (N := 16) hx hb hts inlX7 hown hK hP 0 rfl rfl 1 (by decide) (kw hts kin_4 23 rfl) (fun _ h9 => h9) rfl dX7_round_61 ?_
            refine lv_iconst (v := 0) hx hb dX7_round_64 (by decide) ?_
            refine va_iald (cA := cI) (n := 59) (f := told) hx hb hK hP 2 0 rfl rfl ((kb.lit 0).in (by decide) (by decide)) dX7_round_65 ?_
            show W p l e rm_X7_round s m args below meth c H locs 0 0 Q (F0 m 66 ls [.int (told 0), .int ((nI i) + i_), .int 255, .ref (u 0)])
            refine lv_irem hx hb dX7_round_66 (kb.ne0 hT0 (by decide) (by decide)) ?_
            refine lv_iload_n hx hb dX7_round_67 rfl (lv_at hl 1 rfl) ?_
            refine lv_iload hx hb dX7_round_68 (lv_at hl 4 rfl) ?_
            refine kvi (As := [.int 255, .int (((nI i) + i_) - ((((nI i) + i_) / (told 0)) * (told 0))), .int person, .int (nI i)]) (rest := []) (q0 := 0) (ci := 7) ⟨hx, hb, hml, hown, hts⟩ hP hK hD hS hA hE (k_X7_shaves l D cI cZ  u y45_w told read isK undoes text texted seen seS seB seP at_ start clauses number word 255 (((nI i) + i_) - ((((nI i) + i_) / (told 0)) * (told 0))) person (nI i) ((kb.lit 255).wide (by decide) (by decide)) ((kmod (kb.add (kb.mk hlt45) (kinlit (h := 5) (n := 5) rfl (by decide) c_28)) (by decide) hT0 (by decide)).wide (by decide) (by decide)) ((kperson hT1 (by decide) c_5).wide (by decide) (by decide)) ((kb.mk hlt45).wide (by decide) (by decide))) (kcv hts kM_X7_shaves (kin_24 _ (List.mem_of_getElem? (i := 23) rfl)) ⟨rfl, rfl⟩ ⟨Nat.le_of_ble_eq_true rfl, Nat.le_of_ble_eq_true rfl⟩) kBl_T kOk_T (wM cI cZ u ((f_X7_shaves y45_w told 255 (((nI i) + i_) - ((((nI i) + i_) / (told 0)) * (told 0))) person (nI i)).2) told read isK undoes text texted seen seS seB seP at_ start clauses number word) (cut_m_m cI cZ u y45_w told read isK undoes text texted seen seS seB seP at_ start clauses number word ((f_X7_shaves y45_w told 255 (((nI i) + i_) - ((((nI i) + i_) / (told 0)) * (told 0))) person (nI i)).2) told read isK undoes text texted seen seS seB seP at_ start clauses number word).1 (cut_m_m cI cZ u y45_w told read isK undoes text texted seen seS seB seP at_ start clauses number word ((f_X7_shaves y45_w told 255 (((nI i) + i_) - ((((nI i) + i_) / (told 0)) * (told 0))) person (nI i)).2) told read isK undoes text texted seen seS seB seP at_ start clauses number word).2 rfl rfl rfl rfl hl.1 rfl (Nat.le_of_ble_eq_true rfl) dX7_round_70 (fun H locs hP hD hS => ?_)
            refine lv_pop hx hb dX7_round_73 rfl ?_
            refine lv_iinc (v := (nI (i + 1))) (lv' := [(4, .int (nI (i + 1))), (0, .ref (u 0)), (1, .int person), (2, .int i_), (3, .int j_)]) hx hb dX7_round_74 hl (k := 4) rfl (nI_1 i) (by decide) rfl (fun ls hl => ?_)
            refine lv_goto (tgt := 45) hx hb dX7_round_77 (by decide) ?_
            have hb45 : nx_X7_round_45 told person i_ i y45_w = (f_X7_shaves y45_w told 255 (((nI i) + i_) - ((((nI i) + i_) / (told 0)) * (told 0))) person (nI i)).2 := rfl
            have hs45 : (lp (fun iz z => nx_X7_round_45 told person i_ iz z) (f_X7_copy w 0 255) (i + 1) : (Nat → Int32)) = nx_X7_round_45 told person i_ i (lp (fun iz z => nx_X7_round_45 told person i_ iz z) (f_X7_copy w 0 255) i : (Nat → Int32)) := lp_succ _ _ _
            rw [← ea45] at hs45
            exact ih45 (i + 1) ((f_X7_shaves y45_w told 255 (((nI i) + i_) - ((((nI i) + i_) / (told 0)) * (told 0))) person (nI i)).2) (by omega) (hb45.symm.trans hs45.symm) _ _ _ hP hD hS (lv_sub hl [1, 2, 3, 4, 0] rfl)
        exact lp45 6 0 (f_X7_copy w 0 255) (Nat.zero_add _) (lp_zero _ _).symm _ _ _ hP hD hS (lv_sub hl [1, 2, 3, 4, 0] rfl)
      · skip
        refine lv_bipush (v := (-3)) hx hb dX7_round_31 (by decide) ?_
        have hf : (f_X7_round w told person i_ j_) = ((-3), w) := ((if_neg c_5).trans ((if_neg c_13).trans (if_pos c_28)))
        rw [hf] at hret
        dsimp only at hret
        exact hret _ _ _ _ hP hS dX7_round_33
    · skip
      refine lv_bipush (v := (-2)) hx hb dX7_round_16 (by decide) ?_
      have hf : (f_X7_round w told person i_ j_) = ((-2), w) := ((if_neg c_5).trans (if_pos c_13))
      rw [hf] at hret
      dsimp only at hret
      exact hret _ _ _ _ hP hS dX7_round_18
