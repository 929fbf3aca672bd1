def v_X7_smooth_68_0 (told : Nat → Int32) (barber : Int32) (person : Int32) (m_ : Int32) (i : Nat) (y40_w : Nat → Int32) : Int32 := if (f_X7_many (f_X7_fitsOf (f_X7_triesSet y40_w told barber person (nI i)) told 255 barber person)) < m_ then 0 else 1
def v_X7_smooth_80_0 (told : Nat → Int32) (barber : Int32) (person : Int32) (m_ : Int32) (i : Nat) (x40_4 : Int32) (y40_w : Nat → Int32) : Int32 := if (v_X7_smooth_68_0 told barber person m_ i y40_w) = 0 then x40_4 else (if x40_4 = (-1) then (nI i) else (if (f_X7_ones (nI i)) ≤ (f_X7_ones x40_4) then x40_4 else (nI i)))
def nx_X7_smooth_40 (told : Nat → Int32) (barber : Int32) (person : Int32) (m_ : Int32) (i : Nat) (x40_4 : Int32) (y40_w : Nat → Int32) : Int32 × (Nat → Int32) := ((v_X7_smooth_80_0 told barber person m_ i x40_4 y40_w), (f_X7_triesSet y40_w told barber person (nI i)))
def x_X7_smooth_40 (w : Nat → Int32) (told : Nat → Int32) (barber : Int32) (person : Int32) (m_ : Int32) : Int32 × (Nat → Int32) := lp (fun iz z => nx_X7_smooth_40 told barber person m_ iz z.1 z.2) ((-1), w) 64
def f_X7_smooth (w : Nat → Int32) (told : Nat → Int32) (barber : Int32) (person : Int32) (m_ : Int32) : Int32 × (Nat → Int32) := if (f_X7_isBarber told barber) = 0 then ((-2), w) else (if (f_X7_isPerson told person) = 0 then ((-2), w) else (if (f_X7_in m_.toInt64 1 8) = 0 then ((-3), w) else (((x_X7_smooth_40 w told barber person m_).1), ((x_X7_smooth_40 w told barber person m_).2))))
abbrev rm_X7_smooth : Room := { frames := 3, cells := 0, slots := 0, locals := 75 }
set_option maxRecDepth 100000 in
set_option maxHeartbeats 4000000 in
theorem k_X7_smooth (l : Launch) (D : va_G) (cI cZ : ClassId) (u : Nat → Nat) (w : Nat → Int32) (told : Nat → Int32) (read : Nat → Int32) (isK : Nat → Int32) (undoes : Int32) (text : Nat → Int32) (texted : Int32) (seen : Int32) (seS : Nat → Int32) (seB : Nat → Int32) (seP : Nat → Int32) (at_ : Int32) (start : Int32) (clauses : Int32) (number : Int32) (word : Int64) (barber : Int32) (person : Int32) (m_ : Int32) (hT0 : kb (told 0) 1 5) (hT1 : kb (told 1) 0 7) (hT2 : kb (told 2) 0 9) : CI l D (kTy cI cZ) kT yX7_smooth (.code yX7_smooth cX7_smooth 7 (some .int) :: wsL_law) rm_X7_smooth [.ref (u 0), .int barber, .int person, .int m_] (wM cI cZ u w told read isK undoes text texted seen seS seB seP at_ start clauses number word) (wM cI cZ u ((f_X7_smooth w told barber person m_).2) told read isK undoes text texted seen seS seB seP at_ start clauses number word) ((f_X7_smooth w told barber person m_).1) := by
  refine CI.of (cc := cX7_smooth) (maxL := 7) (ty := .int) (by decide) rfl (Nat.le_of_ble_eq_true rfl) rfl ?_
  intro p e s m args below meth c A Q ls hx hb hml hts0 hown hA hP hK hD hE hl hret
  have hts : ∀ w ∈ wsL_law, w.before args s = true := fun w h => hts0 w (List.mem_cons_of_mem _ h)
  clear hts0
  have hown : s.vm.findClass RX7 = some m.cls := hown
  have hl : lv_has ls 7 [(0, .ref (u 0)), (1, .int barber), (2, .int person), (3, .int m_)] := hl
  have hS : va_S A s.heap s.heap [] := va_S.rf
  revert hP hS
  suffices hgo : ∀ (H : Heap) (locs : List Loc), va_P D vwCl (wM cI cZ u w told read isK undoes text texted seen seS seB seP at_ start clauses number word) H → va_S A s.heap H locs → W p l e rm_X7_smooth s m args below meth c H locs 0 0 Q (F0 m 0 ls []) from fun a b => hgo _ _ a b
  intro H locs hP hS
  refine lv_aload_n hx hb dX7_smooth_0 rfl (lv_at hl 0 rfl) ?_
  refine lv_iload_n hx hb dX7_smooth_1 rfl (lv_at hl 1 rfl) ?_
  refine kvi (As := [.int barber]) (rest := []) (q0 := 0) (ci := 7) ⟨hx, hb, hml, hown, hts⟩ hP hK hD hS hA hE (k_X7_isBarber l D cI cZ  u w told read isK undoes text texted seen seS seB seP at_ start clauses number word barber) (kcv hts kM_X7_isBarber (kin_21 _ (List.mem_of_getElem? (i := 8) rfl)) ⟨rfl, rfl⟩ ⟨Nat.le_of_ble_eq_true rfl, Nat.le_of_ble_eq_true rfl⟩) kBl_T kOk_T (wM cI cZ u w told read isK undoes text texted seen seS seB seP at_ start clauses number word) (cut_m_m cI cZ u w told read isK undoes text texted seen seS seB seP at_ start clauses number word w told read isK undoes text texted seen seS seB seP at_ start clauses number word).1 (cut_m_m cI cZ u w told read isK undoes text texted seen seS seB seP at_ start clauses number word w told read isK undoes text texted seen seS seB seP at_ start clauses number word).2 rfl rfl rfl rfl hl.1 rfl (Nat.le_of_ble_eq_true rfl) dX7_smooth_2 (fun H locs hP hD hS => ?_)
  refine lv_if_eq (tgt := 16) hx hb dX7_smooth_5 (by decide) (fun c_5 => ?_) (fun c_5 => ?_)
  · skip
    refine lv_bipush (v := (-2)) hx hb dX7_smooth_16 (by decide) ?_
    have hf : (f_X7_smooth w told barber person m_) = ((-2), w) := (if_pos c_5)
    rw [hf] at hret
    dsimp only at hret
    exact hret _ _ _ _ hP hS dX7_smooth_18
  · skip
    refine lv_aload_n hx hb dX7_smooth_8 rfl (lv_at hl 0 rfl) ?_
    refine lv_iload_n hx hb dX7_smooth_9 rfl (lv_at hl 2 rfl) ?_
    refine kvi (As := [.int person]) (rest := []) (q0 := 0) (ci := 7) ⟨hx, hb, hml, hown, hts⟩ hP hK hD hS hA hE (k_X7_isPerson l D cI cZ  u w told read isK undoes text texted seen seS seB seP at_ start clauses number word person) (kcv hts kM_X7_isPerson (kin_18 _ (List.mem_of_getElem? (i := 6) rfl)) ⟨rfl, rfl⟩ ⟨Nat.le_of_ble_eq_true rfl, Nat.le_of_ble_eq_true rfl⟩) kBl_T kOk_T (wM cI cZ u w told read isK undoes text texted seen seS seB seP at_ start clauses number word) (cut_m_m cI cZ u w told read isK undoes text texted seen seS seB seP at_ start clauses number word w told read isK undoes text texted seen seS seB seP at_ start clauses number word).1 (cut_m_m cI cZ u w told read isK undoes text texted seen seS seB seP at_ start clauses number word w told read isK undoes text texted seen seS seB seP at_ start clauses number word).2 rfl rfl rfl rfl hl.1 rfl (Nat.le_of_ble_eq_true rfl) dX7_smooth_10 (fun H locs hP hD hS => ?_)
    refine lv_if_ne (tgt := 19) hx hb dX7_smooth_13 (by decide) (fun c_13 => ?_) (fun c_13 => ?_)
    · skip
      refine lv_iload_n hx hb dX7_smooth_19 rfl (lv_at hl 3 rfl) ?_
      refine lv_i2l (v := m_.toInt64) hx hb dX7_smooth_20 rfl ?_
      refine lv_lconst (v := 1) hx hb dX7_smooth_21 (by decide) ?_
      refine lv_ldc2 (v := 8) hx hb hown (kw hts kin_29 8 rfl) dX7_smooth_22 ?_
      refine ksi (As := [.long m_.toInt64, .long 1, .long 8]) (rest := []) ⟨hx, hb, hml, hown, hts⟩ hP hK hD hS hA hE (k_X7_in l D cI cZ  m_.toInt64 1 8) (kcs hts kM_X7_in (kin_6 _ (List.mem_of_getElem? (i := 6) rfl)) ⟨rfl, rfl⟩ ⟨Nat.le_of_ble_eq_true rfl, Nat.le_of_ble_eq_true rfl⟩) kBl_T kOk_T rfl hl.1 rfl (Nat.le_of_ble_eq_true rfl) dX7_smooth_25 (fun H locs hP hD hS => ?_)
      refine lv_if_ne (tgt := 34) hx hb dX7_smooth_28 (by decide) (fun c_28 => ?_) (fun c_28 => ?_)
      · skip
        refine lv_iconst (v := (-1)) hx hb dX7_smooth_34 (by decide) ?_
        refine lv_istore (lv' := [(4, .int (-1)), (0, .ref (u 0)), (1, .int barber), (2, .int person), (3, .int m_)]) hx hb dX7_smooth_35 hl (by decide) rfl (fun ls hl => ?_)
        refine lv_iconst (v := 0) hx hb dX7_smooth_37 (by decide) ?_
        refine lv_istore (lv' := [(5, .int 0), (4, .int (-1)), (0, .ref (u 0)), (1, .int barber), (2, .int person), (3, .int m_)]) hx hb dX7_smooth_38 hl (by decide) rfl (fun ls hl => ?_)
        have lp40 : ∀ (k40 i : Nat) (x40_4 : Int32) (y40_w : Nat → Int32), i + k40 = 64 → (x40_4, y40_w) = lp (fun iz z => nx_X7_smooth_40 told barber person m_ iz z.1 z.2) ((-1), w) i → ∀ (H : Heap) (locs : List Loc) (ls : Array Slot), va_P D vwCl (wM cI cZ u y40_w told read isK undoes text texted seen seS seB seP at_ start clauses number word) H → va_D A (wM cI cZ u y40_w told read isK undoes text texted seen seS seB seP at_ start clauses number word) → va_S A s.heap H locs → lv_has ls 7 [(0, .ref (u 0)), (1, .int barber), (2, .int person), (3, .int m_), (4, .int x40_4), (5, .int (nI i))] → W p l e rm_X7_smooth s m args below meth c H locs 0 0 Q (F0 m 40 ls []) := by
          intro k40
          induction k40 with
          | zero =>
            intro i x40_4 y40_w hi40 ea40 H locs ls hP hD hS hl
            have hi40 : 64 = i := by omega
            subst hi40
            have ea40 : (x40_4, y40_w) = (x_X7_smooth_40 w told barber person m_) := ea40
            have e40_0 : x40_4 = ((x_X7_smooth_40 w told barber person m_).1) := (kfst ea40)
            have e40_1 : y40_w = ((x_X7_smooth_40 w told barber person m_).2) := (ksnd ea40)
            clear ea40
            have hl : lv_has ls 7 [(0, .ref (u 0)), (1, .int barber), (2, .int person), (3, .int m_), (4, .int ((x_X7_smooth_40 w told barber person m_).1)), (5, .int (nI 64))] := by rw [← e40_0]; exact hl
            have hP : va_P D vwCl (wM cI cZ u ((x_X7_smooth_40 w told barber person m_).2) told read isK undoes text texted seen seS seB seP at_ start clauses number word) H := by rw [← e40_1]; exact hP
            have hD : va_D A (wM cI cZ u ((x_X7_smooth_40 w told barber person m_).2) told read isK undoes text texted seen seS seB seP at_ start clauses number word) := by rw [← e40_1]; exact hD
            refine lv_iload hx hb dX7_smooth_40 (lv_at hl 5 rfl) ?_
            refine lv_bipush (v := 64) hx hb dX7_smooth_42 (by decide) ?_
            refine lv_icmp_ge (tgt := 117) hx hb dX7_smooth_44 (by decide) (fun _ => ?_) (fun c_44 => absurd (nI_le (Nat.le_refl _) (by decide)) c_44)
            refine lv_iload hx hb dX7_smooth_117 (lv_at hl 4 rfl) ?_
            have hf : (f_X7_smooth w told barber person m_) = (((x_X7_smooth_40 w told barber person m_).1), ((x_X7_smooth_40 w told barber person m_).2)) := ((if_neg c_5).trans ((if_neg c_13).trans (if_neg c_28)))
            rw [hf] at hret
            dsimp only at hret
            exact hret _ _ _ _ hP hS dX7_smooth_119
          | succ k40 ih40 =>
            intro i x40_4 y40_w hi40 ea40 H locs ls hP hD hS hl
            have hlt40 : i < 64 := by omega
            refine lv_iload hx hb dX7_smooth_40 (lv_at hl 5 rfl) ?_
            refine lv_bipush (v := 64) hx hb dX7_smooth_42 (by decide) ?_
            refine lv_icmp_ge (tgt := 117) hx hb dX7_smooth_44 (by decide) (fun c_44 => absurd c_44 (nI_ge hlt40 (by decide))) (fun _ => ?_)
            refine lv_aload_n hx hb dX7_smooth_47 rfl (lv_at hl 0 rfl) ?_
            refine lv_iload_n hx hb dX7_smooth_48 rfl (lv_at hl 1 rfl) ?_
            refine lv_iload_n hx hb dX7_smooth_49 rfl (lv_at hl 2 rfl) ?_
            refine lv_iload hx hb dX7_smooth_50 (lv_at hl 5 rfl) ?_
            refine kvv (As := [.int barber, .int person, .int (nI i)]) (rest := []) (q0 := 0) (ci := 7) ⟨hx, hb, hml, hown, hts⟩ hP hK hD hS hA hE (k_X7_triesSet l D cI cZ  u y40_w told read isK undoes text texted seen seS seB seP at_ start clauses number word barber person (nI i) ((kperson hT0 (by decide) c_5).wide (by decide) (by decide)) ((kperson hT1 (by decide) c_13).wide (by decide) (by decide))) (kcv hts kM_X7_triesSet (kin_29 _ (List.mem_of_getElem? (i := 9) rfl)) ⟨rfl, rfl⟩ ⟨Nat.le_of_ble_eq_true rfl, Nat.le_of_ble_eq_true rfl⟩) kBl_T kOk_T (wM cI cZ u (f_X7_triesSet y40_w told barber person (nI i)) told read isK undoes text texted seen seS seB seP at_ start clauses number word) (cut_m_m cI cZ u y40_w told read isK undoes text texted seen seS seB seP at_ start clauses number word (f_X7_triesSet y40_w told barber person (nI i)) told read isK undoes text texted seen seS seB seP at_ start clauses number word).1 (cut_m_m cI cZ u y40_w told read isK undoes text texted seen seS seB seP at_ start clauses number word (f_X7_triesSet y40_w told barber person (nI i)) told read isK undoes text texted seen seS seB seP at_ start clauses number word).2 rfl rfl rfl rfl hl.1 rfl (Nat.le_of_ble_eq_true rfl) dX7_smooth_52 (fun H locs hP hD hS => ?_)
            refine lv_aload_n hx hb dX7_smooth_55 rfl (lv_at hl 0 rfl) ?_
            refine lv_sipush (v := 255) hx hb dX7_smooth_56 (by decide) ?_
            refine lv_iload_n hx hb dX7_smooth_59 rfl (lv_at hl 1 rfl) ?_
            refine lv_iload_n hx hb dX7_smooth_60 rfl (lv_at hl 2 rfl) ?_
            refine kvi (As := [.int 255, .int barber, .int person]) (rest := []) (q0 := 0) (ci := 7) ⟨hx, hb, hml, hown, hts⟩ hP hK hD hS hA hE (k_X7_fitsOf l D cI cZ  u (f_X7_triesSet y40_w told barber person (nI i)) told read isK undoes text texted seen seS seB seP at_ start clauses number word 255 barber person ((kb.lit 255).wide (by decide) (by decide)) ((kperson hT0 (by decide) c_5).wide (by decide) (by decide)) ((kperson hT1 (by decide) c_13).wide (by decide) (by decide)) (hT2.wide (by decide) (by decide))) (kcv hts kM_X7_fitsOf (kin_21 _ (List.mem_of_getElem? (i := 12) rfl)) ⟨rfl, rfl⟩ ⟨Nat.le_of_ble_eq_true rfl, Nat.le_of_ble_eq_true rfl⟩) kBl_T kOk_T (wM cI cZ u (f_X7_triesSet y40_w told barber person (nI i)) told read isK undoes text texted seen seS seB seP at_ start clauses number word) (cut_m_m cI cZ u (f_X7_triesSet y40_w told barber person (nI i)) told read isK undoes text texted seen seS seB seP at_ start clauses number word (f_X7_triesSet y40_w told barber person (nI i)) told read isK undoes text texted seen seS seB seP at_ start clauses number word).1 (cut_m_m cI cZ u (f_X7_triesSet y40_w told barber person (nI i)) told read isK undoes text texted seen seS seB seP at_ start clauses number word (f_X7_triesSet y40_w told barber person (nI i)) told read isK undoes text texted seen seS seB seP at_ start clauses number word).2 rfl rfl rfl rfl hl.1 rfl (Nat.le_of_ble_eq_true rfl) dX7_smooth_61 (fun H locs hP hD hS => ?_)
            refine ksi (As := [.int (f_X7_fitsOf (f_X7_triesSet y40_w told barber person (nI i)) told 255 barber person)]) (rest := []) ⟨hx, hb, hml, hown, hts⟩ hP hK hD hS hA hE (k_X7_many l D cI cZ  (f_X7_fitsOf (f_X7_triesSet y40_w told barber person (nI i)) told 255 barber person)) (kcs hts kM_X7_many (kin_29 _ (List.mem_of_getElem? (i := 16) rfl)) ⟨rfl, rfl⟩ ⟨Nat.le_of_ble_eq_true rfl, Nat.le_of_ble_eq_true rfl⟩) kBl_T kOk_T rfl hl.1 rfl (Nat.le_of_ble_eq_true rfl) dX7_smooth_64 (fun H locs hP hD hS => ?_)
            refine lv_iload_n hx hb dX7_smooth_67 rfl (lv_at hl 3 rfl) ?_
            have J68 : ∀ (H : Heap) (locs : List Loc) (ls : Array Slot), va_P D vwCl (wM cI cZ u (f_X7_triesSet y40_w told barber person (nI i)) told read isK undoes text texted seen seS seB seP at_ start clauses number word) H → va_D A (wM cI cZ u (f_X7_triesSet y40_w told barber person (nI i)) told read isK undoes text texted seen seS seB seP at_ start clauses number word) → va_S A s.heap H locs → lv_has ls 7 [(0, .ref (u 0)), (1, .int barber), (2, .int person), (3, .int m_), (4, .int x40_4), (5, .int (nI i))] → W p l e rm_X7_smooth s m args below meth c H locs 0 0 Q (F0 m 76 ls [.int (v_X7_smooth_68_0 told barber person m_ i y40_w)]) := by
              intro H locs ls hP hD hS hl
              refine lv_istore (lv' := [(6, .int (v_X7_smooth_68_0 told barber person m_ i y40_w)), (0, .ref (u 0)), (1, .int barber), (2, .int person), (3, .int m_), (4, .int x40_4), (5, .int (nI i))]) hx hb dX7_smooth_76 hl (by decide) rfl (fun ls hl => ?_)
              refine lv_iload hx hb dX7_smooth_78 (lv_at hl 0 rfl) ?_
              have J80 : ∀ (H : Heap) (locs : List Loc) (ls : Array Slot), va_P D vwCl (wM cI cZ u (f_X7_triesSet y40_w told barber person (nI i)) told read isK undoes text texted seen seS seB seP at_ start clauses number word) H → va_D A (wM cI cZ u (f_X7_triesSet y40_w told barber person (nI i)) told read isK undoes text texted seen seS seB seP at_ start clauses number word) → va_S A s.heap H locs → lv_has ls 7 [(0, .ref (u 0)), (1, .int barber), (2, .int person), (3, .int m_), (4, .int x40_4), (5, .int (nI i)), (6, .int (v_X7_smooth_68_0 told barber person m_ i y40_w))] → W p l e rm_X7_smooth s m args below meth c H locs 0 0 Q (F0 m 109 ls [.int (v_X7_smooth_80_0 told barber person m_ i x40_4 y40_w)]) := by
                intro H locs ls hP hD hS hl
                refine lv_istore (lv' := [(4, .int (v_X7_smooth_80_0 told barber person m_ i x40_4 y40_w)), (0, .ref (u 0)), (1, .int barber), (2, .int person), (3, .int m_), (5, .int (nI i)), (6, .int (v_X7_smooth_68_0 told barber person m_ i y40_w))]) hx hb dX7_smooth_109 hl (by decide) rfl (fun ls hl => ?_)
                refine lv_iinc (v := (nI (i + 1))) (lv' := [(5, .int (nI (i + 1))), (4, .int (v_X7_smooth_80_0 told barber person m_ i x40_4 y40_w)), (0, .ref (u 0)), (1, .int barber), (2, .int person), (3, .int m_), (6, .int (v_X7_smooth_68_0 told barber person m_ i y40_w))]) hx hb dX7_smooth_111 hl (k := 5) rfl (nI_1 i) (by decide) rfl (fun ls hl => ?_)
                refine lv_goto (tgt := 40) hx hb dX7_smooth_114 (by decide) ?_
                have hb40 : nx_X7_smooth_40 told barber person m_ i x40_4 y40_w = ((v_X7_smooth_80_0 told barber person m_ i x40_4 y40_w), (f_X7_triesSet y40_w told barber person (nI i))) := rfl
                have hs40 : (lp (fun iz z => nx_X7_smooth_40 told barber person m_ iz z.1 z.2) ((-1), w) (i + 1) : Int32 × (Nat → Int32)) = nx_X7_smooth_40 told barber person m_ i ((lp (fun iz z => nx_X7_smooth_40 told barber person m_ iz z.1 z.2) ((-1), w) i : Int32 × (Nat → Int32)).1) ((lp (fun iz z => nx_X7_smooth_40 told barber person m_ iz z.1 z.2) ((-1), w) i : Int32 × (Nat → Int32)).2) := lp_succ _ _ _
                rw [← ea40] at hs40
                exact ih40 (i + 1) (v_X7_smooth_80_0 told barber person m_ i x40_4 y40_w) (f_X7_triesSet y40_w told barber person (nI i)) (by omega) (hb40.symm.trans hs40.symm) _ _ _ hP hD hS (lv_sub hl [2, 3, 4, 5, 1, 0] rfl)
              refine lv_if_eq (tgt := 107) hx hb dX7_smooth_80 (by decide) (fun c_80 => ?_) (fun c_80 => ?_)
              · skip
                refine lv_iload hx hb dX7_smooth_107 (lv_at hl 5 rfl) ?_
                rw [show (v_X7_smooth_80_0 told barber person m_ i x40_4 y40_w) = x40_4 from (if_pos c_80)] at J80
                exact J80 _ _ _ hP hD hS (lv_sub hl [1, 2, 3, 4, 5, 6, 0] rfl)
              · skip
                refine lv_iload hx hb dX7_smooth_83 (lv_at hl 5 rfl) ?_
                refine lv_iconst (v := (-1)) hx hb dX7_smooth_85 (by decide) ?_
                refine lv_icmp_eq (tgt := 102) hx hb dX7_smooth_86 (by decide) (fun c_86 => ?_) (fun c_86 => ?_)
                · skip
                  refine lv_iload hx hb dX7_smooth_102 (lv_at hl 6 rfl) ?_
                  refine lv_goto (tgt := 109) hx hb dX7_smooth_104 (by decide) ?_
                  rw [show (v_X7_smooth_80_0 told barber person m_ i x40_4 y40_w) = (nI i) from ((if_neg c_80).trans (if_pos c_86))] at J80
                  exact J80 _ _ _ hP hD hS (lv_sub hl [1, 2, 3, 4, 5, 6, 0] rfl)
                · skip
                  refine lv_iload hx hb dX7_smooth_89 (lv_at hl 6 rfl) ?_
                  refine ksi (As := [.int (nI i)]) (rest := []) ⟨hx, hb, hml, hown, hts⟩ hP hK hD hS hA hE (k_X7_ones l D cI cZ  (nI i)) (kcs hts kM_X7_ones (kin_27 _ (List.mem_of_getElem? (i := 1) rfl)) ⟨rfl, rfl⟩ ⟨Nat.le_of_ble_eq_true rfl, Nat.le_of_ble_eq_true rfl⟩) kBl_T kOk_T rfl hl.1 rfl (Nat.le_of_ble_eq_true rfl) dX7_smooth_91 (fun H locs hP hD hS => ?_)
                  refine lv_iload hx hb dX7_smooth_94 (lv_at hl 5 rfl) ?_
                  refine ksi (As := [.int x40_4]) (rest := [.int (f_X7_ones (nI i))]) ⟨hx, hb, hml, hown, hts⟩ hP hK hD hS hA hE (k_X7_ones l D cI cZ  x40_4) (kcs hts kM_X7_ones (kin_27 _ (List.mem_of_getElem? (i := 1) rfl)) ⟨rfl, rfl⟩ ⟨Nat.le_of_ble_eq_true rfl, Nat.le_of_ble_eq_true rfl⟩) kBl_T kOk_T rfl hl.1 rfl (Nat.le_of_ble_eq_true rfl) dX7_smooth_96 (fun H locs hP hD hS => ?_)
                  refine lv_icmp_le (tgt := 107) hx hb dX7_smooth_99 (by decide) (fun c_99 => ?_) (fun c_99 => ?_)
                  · skip
                    refine lv_iload hx hb dX7_smooth_107 (lv_at hl 5 rfl) ?_
                    rw [show (v_X7_smooth_80_0 told barber person m_ i x40_4 y40_w) = x40_4 from ((if_neg c_80).trans ((if_neg c_86).trans (if_pos c_99)))] at J80
                    exact J80 _ _ _ hP hD hS (lv_sub hl [1, 2, 3, 4, 5, 6, 0] rfl)
                  · skip
                    refine lv_iload hx hb dX7_smooth_102 (lv_at hl 6 rfl) ?_
                    refine lv_goto (tgt := 109) hx hb dX7_smooth_104 (by decide) ?_
                    rw [show (v_X7_smooth_80_0 told barber person m_ i x40_4 y40_w) = (nI i) from ((if_neg c_80).trans ((if_neg c_86).trans (if_neg c_99)))] at J80
                    exact J80 _ _ _ hP hD hS (lv_sub hl [1, 2, 3, 4, 5, 6, 0] rfl)
            refine lv_icmp_lt (tgt := 75) hx hb dX7_smooth_68 (by decide) (fun c_68 => ?_) (fun c_68 => ?_)
            · skip
              refine lv_iconst (v := 0) hx hb dX7_smooth_75 (by decide) ?_
              rw [show (v_X7_smooth_68_0 told barber person m_ i y40_w) = 0 from (if_pos c_68)] at J68
              exact J68 _ _ _ hP hD hS (lv_sub hl [0, 1, 2, 3, 4, 5] rfl)
            · skip
              refine lv_iconst (v := 1) hx hb dX7_smooth_71 (by decide) ?_
              refine lv_goto (tgt := 76) hx hb dX7_smooth_72 (by decide) ?_
              rw [show (v_X7_smooth_68_0 told barber person m_ i y40_w) = 1 from (if_neg c_68)] at J68
              exact J68 _ _ _ hP hD hS (lv_sub hl [0, 1, 2, 3, 4, 5] rfl)
        exact lp40 64 0 (-1) w (Nat.zero_add _) (lp_zero _ _).symm _ _ _ hP hD hS (lv_sub hl [2, 3, 4, 5, 1, 0] rfl)
      · skip
        refine lv_bipush (v := (-3)) hx hb dX7_smooth_31 (by decide) ?_
        have hf : (f_X7_smooth w told barber person m_) = ((-3), w) := ((if_neg c_5).trans ((if_neg c_13).trans (if_pos c_28)))
        rw [hf] at hret
        dsimp only at hret
        exact hret _ _ _ _ hP hS dX7_smooth_33
    · skip
      refine lv_bipush (v := (-2)) hx hb dX7_smooth_16 (by decide) ?_
      have hf : (f_X7_smooth w told barber person m_) = ((-2), w) := ((if_neg c_5).trans (if_pos c_13))
      rw [hf] at hret
      dsimp only at hret
      exact hret _ _ _ _ hP hS dX7_smooth_18
