def v_X7_stays_80_0 (q_ : Int32) (i : Nat) (i1 : Nat) : Int32 := if (f_X7_has (nI i) (nI i1)) = 0 then (10 - q_) else q_
def nx_X7_stays_64 (q_ : Int32) (i : Nat) (i1 : Nat) (x64_7 : Int32) : Int32 := (x64_7 * (v_X7_stays_80_0 q_ i i1))
def x_X7_stays_64 (q_ : Int32) (i : Nat) : Int32 := lp (fun iz z => nx_X7_stays_64 q_ i iz z) 1 6
def v_X7_stays_123_0 (told : Nat → Int32) (barber : Int32) (person : Int32) (q_ : Int32) (i : Nat) (y51_w : Nat → Int32) : Int32 := if (f_X7_many (f_X7_fitsOf (f_X7_triesSet y51_w told barber person (nI i)) told 255 barber person)) < 2 then 0 else (x_X7_stays_64 q_ i)
def nx_X7_stays_51 (told : Nat → Int32) (barber : Int32) (person : Int32) (q_ : Int32) (i : Nat) (x51_5 : Int32) (y51_w : Nat → Int32) : Int32 × (Nat → Int32) := ((x51_5 + (v_X7_stays_123_0 told barber person q_ i y51_w)), (f_X7_triesSet y51_w told barber person (nI i)))
def x_X7_stays_51 (w : Nat → Int32) (told : Nat → Int32) (barber : Int32) (person : Int32) (q_ : Int32) : Int32 × (Nat → Int32) := lp (fun iz z => nx_X7_stays_51 told barber person q_ iz z.1 z.2) (0, w) 64
def lo_X7_stays_149 (w : Nat → Int32) (told : Nat → Int32) (barber : Int32) (person : Int32) (q_ : Int32) (part : Int32) : Nat → Int32 → Int32 → (Int32 × (Nat → Int32))
  | 0, x149_6, x149_7 => default
  | k149 + 1, x149_6, x149_7 => if x149_7 = 0 then (if part = 0 then ((((x_X7_stays_51 w told barber person q_).1) / x149_6), ((x_X7_stays_51 w told barber person q_).2)) else ((1000000 / x149_6), ((x_X7_stays_51 w told barber person q_).2))) else (lo_X7_stays_149 w told barber person q_ part k149 x149_7 (x149_6 - ((x149_6 / x149_7) * x149_7)))
def f_X7_stays (w : Nat → Int32) (told : Nat → Int32) (barber : Int32) (person : Int32) (q_ : Int32) (part : Int32) : Int32 × (Nat → Int32) := if (f_X7_isBarber told barber) = 0 then ((-2), w) else (if (f_X7_isPerson told person) = 0 then ((-2), w) else (if (f_X7_in q_.toInt64 0 10) = 0 then ((-3), w) else (if (f_X7_in part.toInt64 0 1) = 0 then ((-3), w) else (lo_X7_stays_149 w told barber person q_ part ((((1000000 : Int32).toInt).natAbs) + 1) ((x_X7_stays_51 w told barber person q_).1) 1000000))))
abbrev rm_X7_stays : Room := { frames := 3, cells := 0, slots := 0, locals := 75 }
set_option maxRecDepth 100000 in
set_option maxHeartbeats 4000000 in
theorem k_X7_stays (l : Launch) (D : va_G) (cI cZ : ClassId) (u : Nat → Nat) (w : Nat → Int32) (told : Nat → Int32) (read : Nat → Int32) (isK : Nat → Int32) (undoes : Int32) (text : Nat → Int32) (texted : Int32) (seen : Int32) (seS : Nat → Int32) (seB : Nat → Int32) (seP : Nat → Int32) (at_ : Int32) (start : Int32) (clauses : Int32) (number : Int32) (word : Int64) (barber : Int32) (person : Int32) (q_ : Int32) (part : Int32) (hT0 : kb (told 0) 1 5) (hT1 : kb (told 1) 0 7) (hT2 : kb (told 2) 0 9) : CI l D (kTy cI cZ) kT yX7_stays (.code yX7_stays cX7_stays 9 (some .int) :: wsL_law) rm_X7_stays [.ref (u 0), .int barber, .int person, .int q_, .int part] (wM cI cZ u w told read isK undoes text texted seen seS seB seP at_ start clauses number word) (wM cI cZ u ((f_X7_stays w told barber person q_ part).2) told read isK undoes text texted seen seS seB seP at_ start clauses number word) ((f_X7_stays w told barber person q_ part).1) := by
  refine CI.of (cc := cX7_stays) (maxL := 9) (ty := .int) (by decide) rfl (Nat.le_of_ble_eq_true rfl) rfl ?_
  intro p e s m args below meth c A Q ls hx hb hml hts0 hown hA hP hK hD hE hl hret
  have hts : ∀ w ∈ wsL_law, w.before args s = true := fun w h => hts0 w (List.mem_cons_of_mem _ h)
  clear hts0
  have hown : s.vm.findClass RX7 = some m.cls := hown
  have hl : lv_has ls 9 [(0, .ref (u 0)), (1, .int barber), (2, .int person), (3, .int q_), (4, .int part)] := hl
  have hS : va_S A s.heap s.heap [] := va_S.rf
  revert hP hS
  suffices hgo : ∀ (H : Heap) (locs : List Loc), va_P D vwCl (wM cI cZ u w told read isK undoes text texted seen seS seB seP at_ start clauses number word) H → va_S A s.heap H locs → W p l e rm_X7_stays s m args below meth c H locs 0 0 Q (F0 m 0 ls []) from fun a b => hgo _ _ a b
  intro H locs hP hS
  refine lv_aload_n hx hb dX7_stays_0 rfl (lv_at hl 0 rfl) ?_
  refine lv_iload_n hx hb dX7_stays_1 rfl (lv_at hl 1 rfl) ?_
  refine kvi (As := [.int barber]) (rest := []) (q0 := 0) (ci := 7) ⟨hx, hb, hml, hown, hts⟩ hP hK hD hS hA hE (k_X7_isBarber l D cI cZ  u w told read isK undoes text texted seen seS seB seP at_ start clauses number word barber) (kcv hts kM_X7_isBarber (kin_21 _ (List.mem_of_getElem? (i := 8) rfl)) ⟨rfl, rfl⟩ ⟨Nat.le_of_ble_eq_true rfl, Nat.le_of_ble_eq_true rfl⟩) kBl_T kOk_T (wM cI cZ u w told read isK undoes text texted seen seS seB seP at_ start clauses number word) (cut_m_m cI cZ u w told read isK undoes text texted seen seS seB seP at_ start clauses number word w told read isK undoes text texted seen seS seB seP at_ start clauses number word).1 (cut_m_m cI cZ u w told read isK undoes text texted seen seS seB seP at_ start clauses number word w told read isK undoes text texted seen seS seB seP at_ start clauses number word).2 rfl rfl rfl rfl hl.1 rfl (Nat.le_of_ble_eq_true rfl) dX7_stays_2 (fun H locs hP hD hS => ?_)
  refine lv_if_eq (tgt := 16) hx hb dX7_stays_5 (by decide) (fun c_5 => ?_) (fun c_5 => ?_)
  · skip
    refine lv_bipush (v := (-2)) hx hb dX7_stays_16 (by decide) ?_
    have hf : (f_X7_stays w told barber person q_ part) = ((-2), w) := (if_pos c_5)
    rw [hf] at hret
    dsimp only at hret
    exact hret _ _ _ _ hP hS dX7_stays_18
  · skip
    refine lv_aload_n hx hb dX7_stays_8 rfl (lv_at hl 0 rfl) ?_
    refine lv_iload_n hx hb dX7_stays_9 rfl (lv_at hl 2 rfl) ?_
    refine kvi (As := [.int person]) (rest := []) (q0 := 0) (ci := 7) ⟨hx, hb, hml, hown, hts⟩ hP hK hD hS hA hE (k_X7_isPerson l D cI cZ  u w told read isK undoes text texted seen seS seB seP at_ start clauses number word person) (kcv hts kM_X7_isPerson (kin_18 _ (List.mem_of_getElem? (i := 6) rfl)) ⟨rfl, rfl⟩ ⟨Nat.le_of_ble_eq_true rfl, Nat.le_of_ble_eq_true rfl⟩) kBl_T kOk_T (wM cI cZ u w told read isK undoes text texted seen seS seB seP at_ start clauses number word) (cut_m_m cI cZ u w told read isK undoes text texted seen seS seB seP at_ start clauses number word w told read isK undoes text texted seen seS seB seP at_ start clauses number word).1 (cut_m_m cI cZ u w told read isK undoes text texted seen seS seB seP at_ start clauses number word w told read isK undoes text texted seen seS seB seP at_ start clauses number word).2 rfl rfl rfl rfl hl.1 rfl (Nat.le_of_ble_eq_true rfl) dX7_stays_10 (fun H locs hP hD hS => ?_)
    refine lv_if_ne (tgt := 19) hx hb dX7_stays_13 (by decide) (fun c_13 => ?_) (fun c_13 => ?_)
    · skip
      refine lv_iload_n hx hb dX7_stays_19 rfl (lv_at hl 3 rfl) ?_
      refine lv_i2l (v := q_.toInt64) hx hb dX7_stays_20 rfl ?_
      refine lv_lconst (v := 0) hx hb dX7_stays_21 (by decide) ?_
      refine lv_ldc2 (v := 10) hx hb hown (kw hts kin_33 13 rfl) dX7_stays_22 ?_
      refine ksi (As := [.long q_.toInt64, .long 0, .long 10]) (rest := []) ⟨hx, hb, hml, hown, hts⟩ hP hK hD hS hA hE (k_X7_in l D cI cZ  q_.toInt64 0 10) (kcs hts kM_X7_in (kin_6 _ (List.mem_of_getElem? (i := 6) rfl)) ⟨rfl, rfl⟩ ⟨Nat.le_of_ble_eq_true rfl, Nat.le_of_ble_eq_true rfl⟩) kBl_T kOk_T rfl hl.1 rfl (Nat.le_of_ble_eq_true rfl) dX7_stays_25 (fun H locs hP hD hS => ?_)
      refine lv_if_eq (tgt := 42) hx hb dX7_stays_28 (by decide) (fun c_28 => ?_) (fun c_28 => ?_)
      · skip
        refine lv_bipush (v := (-3)) hx hb dX7_stays_42 (by decide) ?_
        have hf : (f_X7_stays w told barber person q_ part) = ((-3), w) := ((if_neg c_5).trans ((if_neg c_13).trans (if_pos c_28)))
        rw [hf] at hret
        dsimp only at hret
        exact hret _ _ _ _ hP hS dX7_stays_44
      · skip
        refine lv_iload hx hb dX7_stays_31 (lv_at hl 4 rfl) ?_
        refine lv_i2l (v := part.toInt64) hx hb dX7_stays_33 rfl ?_
        refine lv_lconst (v := 0) hx hb dX7_stays_34 (by decide) ?_
        refine lv_lconst (v := 1) hx hb dX7_stays_35 (by decide) ?_
        refine ksi (As := [.long part.toInt64, .long 0, .long 1]) (rest := []) ⟨hx, hb, hml, hown, hts⟩ hP hK hD hS hA hE (k_X7_in l D cI cZ  part.toInt64 0 1) (kcs hts kM_X7_in (kin_6 _ (List.mem_of_getElem? (i := 6) rfl)) ⟨rfl, rfl⟩ ⟨Nat.le_of_ble_eq_true rfl, Nat.le_of_ble_eq_true rfl⟩) kBl_T kOk_T rfl hl.1 rfl (Nat.le_of_ble_eq_true rfl) dX7_stays_36 (fun H locs hP hD hS => ?_)
        refine lv_if_ne (tgt := 45) hx hb dX7_stays_39 (by decide) (fun c_39 => ?_) (fun c_39 => ?_)
        · skip
          refine lv_iconst (v := 0) hx hb dX7_stays_45 (by decide) ?_
          refine lv_istore (lv' := [(5, .int 0), (0, .ref (u 0)), (1, .int barber), (2, .int person), (3, .int q_), (4, .int part)]) hx hb dX7_stays_46 hl (by decide) rfl (fun ls hl => ?_)
          refine lv_iconst (v := 0) hx hb dX7_stays_48 (by decide) ?_
          refine lv_istore (lv' := [(6, .int 0), (5, .int 0), (0, .ref (u 0)), (1, .int barber), (2, .int person), (3, .int q_), (4, .int part)]) hx hb dX7_stays_49 hl (by decide) rfl (fun ls hl => ?_)
          have lp51 : ∀ (k51 i : Nat) (x51_5 : Int32) (y51_w : Nat → Int32), i + k51 = 64 → (x51_5, y51_w) = lp (fun iz z => nx_X7_stays_51 told barber person q_ iz z.1 z.2) (0, w) i → ∀ (H : Heap) (locs : List Loc) (ls : Array Slot), va_P D vwCl (wM cI cZ u y51_w told read isK undoes text texted seen seS seB seP at_ start clauses number word) H → va_D A (wM cI cZ u y51_w told read isK undoes text texted seen seS seB seP at_ start clauses number word) → va_S A s.heap H locs → lv_has ls 9 [(0, .ref (u 0)), (1, .int barber), (2, .int person), (3, .int q_), (4, .int part), (5, .int x51_5), (6, .int (nI i))] → W p l e rm_X7_stays s m args below meth c H locs 0 0 Q (F0 m 51 ls []) := by
            intro k51
            induction k51 with
            | zero =>
              intro i x51_5 y51_w hi51 ea51 H locs ls hP hD hS hl
              have hi51 : 64 = i := by omega
              subst hi51
              have ea51 : (x51_5, y51_w) = (x_X7_stays_51 w told barber person q_) := ea51
              have e51_0 : x51_5 = ((x_X7_stays_51 w told barber person q_).1) := (kfst ea51)
              have e51_1 : y51_w = ((x_X7_stays_51 w told barber person q_).2) := (ksnd ea51)
              clear ea51
              have hl : lv_has ls 9 [(0, .ref (u 0)), (1, .int barber), (2, .int person), (3, .int q_), (4, .int part), (5, .int ((x_X7_stays_51 w told barber person q_).1)), (6, .int (nI 64))] := by rw [← e51_0]; exact hl
              have hP : va_P D vwCl (wM cI cZ u ((x_X7_stays_51 w told barber person q_).2) told read isK undoes text texted seen seS seB seP at_ start clauses number word) H := by rw [← e51_1]; exact hP
              have hD : va_D A (wM cI cZ u ((x_X7_stays_51 w told barber person q_).2) told read isK undoes text texted seen seS seB seP at_ start clauses number word) := by rw [← e51_1]; exact hD
              refine lv_iload hx hb dX7_stays_51 (lv_at hl 6 rfl) ?_
              refine lv_bipush (v := 64) hx hb dX7_stays_53 (by decide) ?_
              refine lv_icmp_ge (tgt := 141) hx hb dX7_stays_55 (by decide) (fun _ => ?_) (fun c_55 => absurd (nI_le (Nat.le_refl _) (by decide)) c_55)
              refine lv_iload hx hb dX7_stays_141 (lv_at hl 5 rfl) ?_
              refine lv_istore (lv' := [(6, .int ((x_X7_stays_51 w told barber person q_).1)), (0, .ref (u 0)), (1, .int barber), (2, .int person), (3, .int q_), (4, .int part), (5, .int ((x_X7_stays_51 w told barber person q_).1))]) hx hb dX7_stays_143 hl (by decide) rfl (fun ls hl => ?_)
              refine lv_ldc (v := 1000000) hx hb hown (kw hts kin_33 14 rfl) dX7_stays_145 ?_
              refine lv_istore (lv' := [(7, .int 1000000), (6, .int ((x_X7_stays_51 w told barber person q_).1)), (0, .ref (u 0)), (1, .int barber), (2, .int person), (3, .int q_), (4, .int part), (5, .int ((x_X7_stays_51 w told barber person q_).1))]) hx hb dX7_stays_147 hl (by decide) rfl (fun ls hl => ?_)
              have lp149 : ∀ (k149 : Nat) (x149_6 : Int32) (x149_7 : Int32), (x149_7.toInt).natAbs < k149 → ¬ (x149_6 = 0 ∧ x149_7 = 0) → lo_X7_stays_149 w told barber person q_ part k149 x149_6 x149_7 = (f_X7_stays w told barber person q_ part) → ∀ (H : Heap) (locs : List Loc) (ls : Array Slot), va_P D vwCl (wM cI cZ u ((x_X7_stays_51 w told barber person q_).2) told read isK undoes text texted seen seS seB seP at_ start clauses number word) H → va_D A (wM cI cZ u ((x_X7_stays_51 w told barber person q_).2) told read isK undoes text texted seen seS seB seP at_ start clauses number word) → va_S A s.heap H locs → lv_has ls 9 [(0, .ref (u 0)), (1, .int barber), (2, .int person), (3, .int q_), (4, .int part), (5, .int ((x_X7_stays_51 w told barber person q_).1)), (6, .int x149_6), (7, .int x149_7)] → W p l e rm_X7_stays s m args below meth c H locs 0 0 Q (F0 m 149 ls []) := by
                intro k149
                induction k149 with
                | zero =>
                  intro x149_6 x149_7 hm149 hg ea149 H locs ls hP hD hS hl
                  exact absurd hm149 (Nat.not_lt_zero _)
                | succ k149 ih149 =>
                  intro x149_6 x149_7 hm149 hg ea149 H locs ls hP hD hS hl
                  refine lv_iload hx hb dX7_stays_149 (lv_at hl 7 rfl) ?_
                  refine lv_if_eq (tgt := 172) hx hb dX7_stays_151 (by decide) (fun c_151 => ?_) (fun c_151 => ?_)
                  · skip
                    refine lv_iload hx hb dX7_stays_172 (lv_at hl 4 rfl) ?_
                    refine lv_if_ne (tgt := 185) hx hb dX7_stays_174 (by decide) (fun c_174 => ?_) (fun c_174 => ?_)
                    · skip
                      refine lv_ldc (v := 1000000) hx hb hown (kw hts kin_33 14 rfl) dX7_stays_185 ?_
                      refine lv_iload hx hb dX7_stays_187 (lv_at hl 6 rfl) ?_
                      refine lv_idiv hx hb dX7_stays_189 (fun z => hg ⟨z, c_151⟩) ?_
                      have hf : (f_X7_stays w told barber person q_ part) = ((1000000 / x149_6), ((x_X7_stays_51 w told barber person q_).2)) := (ea149).symm.trans ((if_pos c_151).trans (if_neg c_174))
                      rw [hf] at hret
                      dsimp only at hret
                      exact hret _ _ _ _ hP hS dX7_stays_190
                    · skip
                      refine lv_iload hx hb dX7_stays_177 (lv_at hl 5 rfl) ?_
                      refine lv_iload hx hb dX7_stays_179 (lv_at hl 6 rfl) ?_
                      refine lv_idiv hx hb dX7_stays_181 (fun z => hg ⟨z, c_151⟩) ?_
                      refine lv_goto (tgt := 190) hx hb dX7_stays_182 (by decide) ?_
                      have hf : (f_X7_stays w told barber person q_ part) = ((((x_X7_stays_51 w told barber person q_).1) / x149_6), ((x_X7_stays_51 w told barber person q_).2)) := (ea149).symm.trans ((if_pos c_151).trans (if_pos c_174))
                      rw [hf] at hret
                      dsimp only at hret
                      exact hret _ _ _ _ hP hS dX7_stays_190
                  · skip
                    refine lv_iload hx hb dX7_stays_154 (lv_at hl 6 rfl) ?_
                    refine lv_iload hx hb dX7_stays_156 (lv_at hl 7 rfl) ?_
                    refine lv_irem hx hb dX7_stays_158 (c_151) ?_
                    refine lv_istore (lv' := [(8, .int (x149_6 - ((x149_6 / x149_7) * x149_7))), (0, .ref (u 0)), (1, .int barber), (2, .int person), (3, .int q_), (4, .int part), (5, .int ((x_X7_stays_51 w told barber person q_).1)), (6, .int x149_6), (7, .int x149_7)]) hx hb dX7_stays_159 hl (by decide) rfl (fun ls hl => ?_)
                    refine lv_iload hx hb dX7_stays_161 (lv_at hl 8 rfl) ?_
                    refine lv_istore (lv' := [(6, .int x149_7), (8, .int (x149_6 - ((x149_6 / x149_7) * x149_7))), (0, .ref (u 0)), (1, .int barber), (2, .int person), (3, .int q_), (4, .int part), (5, .int ((x_X7_stays_51 w told barber person q_).1)), (7, .int x149_7)]) hx hb dX7_stays_163 hl (by decide) rfl (fun ls hl => ?_)
                    refine lv_iload hx hb dX7_stays_165 (lv_at hl 1 rfl) ?_
                    refine lv_istore (lv' := [(7, .int (x149_6 - ((x149_6 / x149_7) * x149_7))), (6, .int x149_7), (8, .int (x149_6 - ((x149_6 / x149_7) * x149_7))), (0, .ref (u 0)), (1, .int barber), (2, .int person), (3, .int q_), (4, .int part), (5, .int ((x_X7_stays_51 w told barber person q_).1))]) hx hb dX7_stays_167 hl (by decide) rfl (fun ls hl => ?_)
                    refine lv_goto (tgt := 149) hx hb dX7_stays_169 (by decide) ?_
                    have hb149 : lo_X7_stays_149 w told barber person q_ part (k149 + 1) x149_6 x149_7 = lo_X7_stays_149 w told barber person q_ part k149 x149_7 (x149_6 - ((x149_6 / x149_7) * x149_7)) := (if_neg c_151)
                    exact ih149 x149_7 (x149_6 - ((x149_6 / x149_7) * x149_7)) (Nat.lt_of_lt_of_le (ksrem_lt c_151) (Nat.le_of_lt_succ hm149)) (fun z => c_151 z.1) (hb149.symm.trans ea149) _ _ _ hP hD hS (lv_sub hl [3, 4, 5, 6, 7, 8, 1, 0] rfl)
              exact lp149 ((((1000000 : Int32).toInt).natAbs) + 1) ((x_X7_stays_51 w told barber person q_).1) 1000000 (Nat.lt_succ_self _) (fun z => absurd z.2 (by decide)) (Eq.symm (((if_neg c_5).trans ((if_neg c_13).trans ((if_neg c_28).trans (if_neg c_39)))) : (f_X7_stays w told barber person q_ part) = lo_X7_stays_149 w told barber person q_ part ((((1000000 : Int32).toInt).natAbs) + 1) ((x_X7_stays_51 w told barber person q_).1) 1000000)) _ _ _ hP hD hS (lv_sub hl [2, 3, 4, 5, 6, 7, 1, 0] rfl)
            | succ k51 ih51 =>
              intro i x51_5 y51_w hi51 ea51 H locs ls hP hD hS hl
              have hlt51 : i < 64 := by omega
              refine lv_iload hx hb dX7_stays_51 (lv_at hl 6 rfl) ?_
              refine lv_bipush (v := 64) hx hb dX7_stays_53 (by decide) ?_
              refine lv_icmp_ge (tgt := 141) hx hb dX7_stays_55 (by decide) (fun c_55 => absurd c_55 (nI_ge hlt51 (by decide))) (fun _ => ?_)
              refine lv_iconst (v := 1) hx hb dX7_stays_58 (by decide) ?_
              refine lv_istore (lv' := [(7, .int 1), (0, .ref (u 0)), (1, .int barber), (2, .int person), (3, .int q_), (4, .int part), (5, .int x51_5), (6, .int (nI i))]) hx hb dX7_stays_59 hl (by decide) rfl (fun ls hl => ?_)
              refine lv_iconst (v := 0) hx hb dX7_stays_61 (by decide) ?_
              refine lv_istore (lv' := [(8, .int 0), (7, .int 1), (0, .ref (u 0)), (1, .int barber), (2, .int person), (3, .int q_), (4, .int part), (5, .int x51_5), (6, .int (nI i))]) hx hb dX7_stays_62 hl (by decide) rfl (fun ls hl => ?_)
              have lp64 : ∀ (k64 i1 : Nat) (x64_7 : Int32), i1 + k64 = 6 → x64_7 = lp (fun iz z => nx_X7_stays_64 q_ i iz z) 1 i1 → ∀ (H : Heap) (locs : List Loc) (ls : Array Slot), va_P D vwCl (wM cI cZ u y51_w told read isK undoes text texted seen seS seB seP at_ start clauses number word) H → va_D A (wM cI cZ u y51_w told read isK undoes text texted seen seS seB seP at_ start clauses number word) → va_S A s.heap H locs → lv_has ls 9 [(0, .ref (u 0)), (1, .int barber), (2, .int person), (3, .int q_), (4, .int part), (5, .int x51_5), (6, .int (nI i)), (7, .int x64_7), (8, .int (nI i1))] → W p l e rm_X7_stays s m args below meth c H locs 0 0 Q (F0 m 64 ls []) := by
                intro k64
                induction k64 with
                | zero =>
                  intro i1 x64_7 hi64 ea64 H locs ls hP hD hS hl
                  have hi64 : 6 = i1 := by omega
                  subst hi64
                  have ea64 : x64_7 = (x_X7_stays_64 q_ i) := ea64
                  subst ea64
                  refine lv_iload hx hb dX7_stays_64 (lv_at hl 8 rfl) ?_
                  refine lv_bipush (v := 6) hx hb dX7_stays_66 (by decide) ?_
                  refine lv_icmp_ge (tgt := 100) hx hb dX7_stays_68 (by decide) (fun _ => ?_) (fun c_68 => absurd (nI_le (Nat.le_refl _) (by decide)) c_68)
                  refine lv_aload_n hx hb dX7_stays_100 rfl (lv_at hl 0 rfl) ?_
                  refine lv_iload_n hx hb dX7_stays_101 rfl (lv_at hl 1 rfl) ?_
                  refine lv_iload_n hx hb dX7_stays_102 rfl (lv_at hl 2 rfl) ?_
                  refine lv_iload hx hb dX7_stays_103 (lv_at hl 6 rfl) ?_
                  refine kvv (As := [.int barber, .int person, .int (nI i)]) (rest := []) (q0 := 0) (ci := 7) ⟨hx, hb, hml, hown, hts⟩ hP hK hD hS hA hE (k_X7_triesSet l D cI cZ  u y51_w told read isK undoes text texted seen seS seB seP at_ start clauses number word barber person (nI i) ((kperson hT0 (by decide) c_5).wide (by decide) (by decide)) ((kperson hT1 (by decide) c_13).wide (by decide) (by decide))) (kcv hts kM_X7_triesSet (kin_29 _ (List.mem_of_getElem? (i := 9) rfl)) ⟨rfl, rfl⟩ ⟨Nat.le_of_ble_eq_true rfl, Nat.le_of_ble_eq_true rfl⟩) kBl_T kOk_T (wM cI cZ u (f_X7_triesSet y51_w told barber person (nI i)) told read isK undoes text texted seen seS seB seP at_ start clauses number word) (cut_m_m cI cZ u y51_w told read isK undoes text texted seen seS seB seP at_ start clauses number word (f_X7_triesSet y51_w told barber person (nI i)) told read isK undoes text texted seen seS seB seP at_ start clauses number word).1 (cut_m_m cI cZ u y51_w told read isK undoes text texted seen seS seB seP at_ start clauses number word (f_X7_triesSet y51_w told barber person (nI i)) told read isK undoes text texted seen seS seB seP at_ start clauses number word).2 rfl rfl rfl rfl hl.1 rfl (Nat.le_of_ble_eq_true rfl) dX7_stays_105 (fun H locs hP hD hS => ?_)
                  refine lv_iload hx hb dX7_stays_108 (lv_at hl 5 rfl) ?_
                  refine lv_aload_n hx hb dX7_stays_110 rfl (lv_at hl 0 rfl) ?_
                  refine lv_sipush (v := 255) hx hb dX7_stays_111 (by decide) ?_
                  refine lv_iload_n hx hb dX7_stays_114 rfl (lv_at hl 1 rfl) ?_
                  refine lv_iload_n hx hb dX7_stays_115 rfl (lv_at hl 2 rfl) ?_
                  refine kvi (As := [.int 255, .int barber, .int person]) (rest := [.int x51_5]) (q0 := 0) (ci := 7) ⟨hx, hb, hml, hown, hts⟩ hP hK hD hS hA hE (k_X7_fitsOf l D cI cZ  u (f_X7_triesSet y51_w told barber person (nI i)) told read isK undoes text texted seen seS seB seP at_ start clauses number word 255 barber person ((kb.lit 255).wide (by decide) (by decide)) ((kperson hT0 (by decide) c_5).wide (by decide) (by decide)) ((kperson hT1 (by decide) c_13).wide (by decide) (by decide)) (hT2.wide (by decide) (by decide))) (kcv hts kM_X7_fitsOf (kin_21 _ (List.mem_of_getElem? (i := 12) rfl)) ⟨rfl, rfl⟩ ⟨Nat.le_of_ble_eq_true rfl, Nat.le_of_ble_eq_true rfl⟩) kBl_T kOk_T (wM cI cZ u (f_X7_triesSet y51_w told barber person (nI i)) told read isK undoes text texted seen seS seB seP at_ start clauses number word) (cut_m_m cI cZ u (f_X7_triesSet y51_w told barber person (nI i)) told read isK undoes text texted seen seS seB seP at_ start clauses number word (f_X7_triesSet y51_w told barber person (nI i)) told read isK undoes text texted seen seS seB seP at_ start clauses number word).1 (cut_m_m cI cZ u (f_X7_triesSet y51_w told barber person (nI i)) told read isK undoes text texted seen seS seB seP at_ start clauses number word (f_X7_triesSet y51_w told barber person (nI i)) told read isK undoes text texted seen seS seB seP at_ start clauses number word).2 rfl rfl rfl rfl hl.1 rfl (Nat.le_of_ble_eq_true rfl) dX7_stays_116 (fun H locs hP hD hS => ?_)
                  refine ksi (As := [.int (f_X7_fitsOf (f_X7_triesSet y51_w told barber person (nI i)) told 255 barber person)]) (rest := [.int x51_5]) ⟨hx, hb, hml, hown, hts⟩ hP hK hD hS hA hE (k_X7_many l D cI cZ  (f_X7_fitsOf (f_X7_triesSet y51_w told barber person (nI i)) told 255 barber person)) (kcs hts kM_X7_many (kin_29 _ (List.mem_of_getElem? (i := 16) rfl)) ⟨rfl, rfl⟩ ⟨Nat.le_of_ble_eq_true rfl, Nat.le_of_ble_eq_true rfl⟩) kBl_T kOk_T rfl hl.1 rfl (Nat.le_of_ble_eq_true rfl) dX7_stays_119 (fun H locs hP hD hS => ?_)
                  refine lv_iconst (v := 2) hx hb dX7_stays_122 (by decide) ?_
                  have J123 : ∀ (H : Heap) (locs : List Loc) (ls : Array Slot), va_P D vwCl (wM cI cZ u (f_X7_triesSet y51_w told barber person (nI i)) told read isK undoes text texted seen seS seB seP at_ start clauses number word) H → va_D A (wM cI cZ u (f_X7_triesSet y51_w told barber person (nI i)) told read isK undoes text texted seen seS seB seP at_ start clauses number word) → va_S A s.heap H locs → lv_has ls 9 [(0, .ref (u 0)), (1, .int barber), (2, .int person), (3, .int q_), (4, .int part), (5, .int x51_5), (6, .int (nI i)), (7, .int (x_X7_stays_64 q_ i)), (8, .int (nI 6))] → W p l e rm_X7_stays s m args below meth c H locs 0 0 Q (F0 m 132 ls [.int (v_X7_stays_123_0 told barber person q_ i y51_w), .int x51_5]) := by
                    intro H locs ls hP hD hS hl
                    refine lv_iadd hx hb dX7_stays_132 ?_
                    refine lv_istore (lv' := [(5, .int (x51_5 + (v_X7_stays_123_0 told barber person q_ i y51_w))), (0, .ref (u 0)), (1, .int barber), (2, .int person), (3, .int q_), (4, .int part), (6, .int (nI i)), (7, .int (x_X7_stays_64 q_ i)), (8, .int (nI 6))]) hx hb dX7_stays_133 hl (by decide) rfl (fun ls hl => ?_)
                    refine lv_iinc (v := (nI (i + 1))) (lv' := [(6, .int (nI (i + 1))), (5, .int (x51_5 + (v_X7_stays_123_0 told barber person q_ i y51_w))), (0, .ref (u 0)), (1, .int barber), (2, .int person), (3, .int q_), (4, .int part), (7, .int (x_X7_stays_64 q_ i)), (8, .int (nI 6))]) hx hb dX7_stays_135 hl (k := 6) rfl (nI_1 i) (by decide) rfl (fun ls hl => ?_)
                    refine lv_goto (tgt := 51) hx hb dX7_stays_138 (by decide) ?_
                    have hb51 : nx_X7_stays_51 told barber person q_ i x51_5 y51_w = ((x51_5 + (v_X7_stays_123_0 told barber person q_ i y51_w)), (f_X7_triesSet y51_w told barber person (nI i))) := rfl
                    have hs51 : (lp (fun iz z => nx_X7_stays_51 told barber person q_ iz z.1 z.2) (0, w) (i + 1) : Int32 × (Nat → Int32)) = nx_X7_stays_51 told barber person q_ i ((lp (fun iz z => nx_X7_stays_51 told barber person q_ iz z.1 z.2) (0, w) i : Int32 × (Nat → Int32)).1) ((lp (fun iz z => nx_X7_stays_51 told barber person q_ iz z.1 z.2) (0, w) i : Int32 × (Nat → Int32)).2) := lp_succ _ _ _
                    rw [← ea51] at hs51
                    exact ih51 (i + 1) (x51_5 + (v_X7_stays_123_0 told barber person q_ i y51_w)) (f_X7_triesSet y51_w told barber person (nI i)) (by omega) (hb51.symm.trans hs51.symm) _ _ _ hP hD hS (lv_sub hl [2, 3, 4, 5, 6, 1, 0] rfl)
                  refine lv_icmp_lt (tgt := 131) hx hb dX7_stays_123 (by decide) (fun c_123 => ?_) (fun c_123 => ?_)
                  · skip
                    refine lv_iconst (v := 0) hx hb dX7_stays_131 (by decide) ?_
                    rw [show (v_X7_stays_123_0 told barber person q_ i y51_w) = 0 from (if_pos c_123)] at J123
                    exact J123 _ _ _ hP hD hS (lv_sub hl [0, 1, 2, 3, 4, 5, 6, 7, 8] rfl)
                  · skip
                    refine lv_iload hx hb dX7_stays_126 (lv_at hl 7 rfl) ?_
                    refine lv_goto (tgt := 132) hx hb dX7_stays_128 (by decide) ?_
                    rw [show (v_X7_stays_123_0 told barber person q_ i y51_w) = (x_X7_stays_64 q_ i) from (if_neg c_123)] at J123
                    exact J123 _ _ _ hP hD hS (lv_sub hl [0, 1, 2, 3, 4, 5, 6, 7, 8] rfl)
                | succ k64 ih64 =>
                  intro i1 x64_7 hi64 ea64 H locs ls hP hD hS hl
                  have hlt64 : i1 < 6 := by omega
                  refine lv_iload hx hb dX7_stays_64 (lv_at hl 8 rfl) ?_
                  refine lv_bipush (v := 6) hx hb dX7_stays_66 (by decide) ?_
                  refine lv_icmp_ge (tgt := 100) hx hb dX7_stays_68 (by decide) (fun c_68 => absurd c_68 (nI_ge hlt64 (by decide))) (fun _ => ?_)
                  refine lv_iload hx hb dX7_stays_71 (lv_at hl 7 rfl) ?_
                  refine lv_iload hx hb dX7_stays_73 (lv_at hl 6 rfl) ?_
                  refine lv_iload hx hb dX7_stays_75 (lv_at hl 8 rfl) ?_
                  refine ksi (As := [.int (nI i), .int (nI i1)]) (rest := [.int x64_7]) ⟨hx, hb, hml, hown, hts⟩ hP hK hD hS hA hE (k_X7_has l D cI cZ  (nI i) (nI i1)) (kcs hts kM_X7_has (kin_29 _ (List.mem_of_getElem? (i := 13) rfl)) ⟨rfl, rfl⟩ ⟨Nat.le_of_ble_eq_true rfl, Nat.le_of_ble_eq_true rfl⟩) kBl_T kOk_T rfl hl.1 rfl (Nat.le_of_ble_eq_true rfl) dX7_stays_77 (fun H locs hP hD hS => ?_)
                  have J80 : ∀ (H : Heap) (locs : List Loc) (ls : Array Slot), va_P D vwCl (wM cI cZ u y51_w told read isK undoes text texted seen seS seB seP at_ start clauses number word) H → va_D A (wM cI cZ u y51_w told read isK undoes text texted seen seS seB seP at_ start clauses number word) → va_S A s.heap H locs → lv_has ls 9 [(0, .ref (u 0)), (1, .int barber), (2, .int person), (3, .int q_), (4, .int part), (5, .int x51_5), (6, .int (nI i)), (7, .int x64_7), (8, .int (nI i1))] → W p l e rm_X7_stays s m args below meth c H locs 0 0 Q (F0 m 91 ls [.int (v_X7_stays_80_0 q_ i i1), .int x64_7]) := by
                    intro H locs ls hP hD hS hl
                    refine lv_imul hx hb dX7_stays_91 ?_
                    refine lv_istore (lv' := [(7, .int (x64_7 * (v_X7_stays_80_0 q_ i i1))), (0, .ref (u 0)), (1, .int barber), (2, .int person), (3, .int q_), (4, .int part), (5, .int x51_5), (6, .int (nI i)), (8, .int (nI i1))]) hx hb dX7_stays_92 hl (by decide) rfl (fun ls hl => ?_)
                    refine lv_iinc (v := (nI (i1 + 1))) (lv' := [(8, .int (nI (i1 + 1))), (7, .int (x64_7 * (v_X7_stays_80_0 q_ i i1))), (0, .ref (u 0)), (1, .int barber), (2, .int person), (3, .int q_), (4, .int part), (5, .int x51_5), (6, .int (nI i))]) hx hb dX7_stays_94 hl (k := 8) rfl (nI_1 i1) (by decide) rfl (fun ls hl => ?_)
                    refine lv_goto (tgt := 64) hx hb dX7_stays_97 (by decide) ?_
                    have hb64 : nx_X7_stays_64 q_ i i1 x64_7 = (x64_7 * (v_X7_stays_80_0 q_ i i1)) := rfl
                    have hs64 : (lp (fun iz z => nx_X7_stays_64 q_ i iz z) 1 (i1 + 1) : Int32) = nx_X7_stays_64 q_ i i1 (lp (fun iz z => nx_X7_stays_64 q_ i iz z) 1 i1 : Int32) := lp_succ _ _ _
                    rw [← ea64] at hs64
                    exact ih64 (i1 + 1) (x64_7 * (v_X7_stays_80_0 q_ i i1)) (by omega) (hb64.symm.trans hs64.symm) _ _ _ hP hD hS (lv_sub hl [2, 3, 4, 5, 6, 7, 8, 1, 0] rfl)
                  refine lv_if_eq (tgt := 87) hx hb dX7_stays_80 (by decide) (fun c_80 => ?_) (fun c_80 => ?_)
                  · skip
                    refine lv_bipush (v := 10) hx hb dX7_stays_87 (by decide) ?_
                    refine lv_iload_n hx hb dX7_stays_89 rfl (lv_at hl 3 rfl) ?_
                    refine lv_isub hx hb dX7_stays_90 ?_
                    rw [show (v_X7_stays_80_0 q_ i i1) = (10 - q_) from (if_pos c_80)] at J80
                    exact J80 _ _ _ hP hD hS (lv_sub hl [0, 1, 2, 3, 4, 5, 6, 7, 8] rfl)
                  · skip
                    refine lv_iload_n hx hb dX7_stays_83 rfl (lv_at hl 3 rfl) ?_
                    refine lv_goto (tgt := 91) hx hb dX7_stays_84 (by decide) ?_
                    rw [show (v_X7_stays_80_0 q_ i i1) = q_ from (if_neg c_80)] at J80
                    exact J80 _ _ _ hP hD hS (lv_sub hl [0, 1, 2, 3, 4, 5, 6, 7, 8] rfl)
              exact lp64 6 0 1 (Nat.zero_add _) (lp_zero _ _).symm _ _ _ hP hD hS (lv_sub hl [2, 3, 4, 5, 6, 7, 8, 1, 0] rfl)
          exact lp51 64 0 0 w (Nat.zero_add _) (lp_zero _ _).symm _ _ _ hP hD hS (lv_sub hl [2, 3, 4, 5, 6, 1, 0] rfl)
        · skip
          refine lv_bipush (v := (-3)) hx hb dX7_stays_42 (by decide) ?_
          have hf : (f_X7_stays w told barber person q_ part) = ((-3), w) := ((if_neg c_5).trans ((if_neg c_13).trans ((if_neg c_28).trans (if_pos c_39))))
          rw [hf] at hret
          dsimp only at hret
          exact hret _ _ _ _ hP hS dX7_stays_44
    · skip
      refine lv_bipush (v := (-2)) hx hb dX7_stays_16 (by decide) ?_
      have hf : (f_X7_stays w told barber person q_ part) = ((-2), w) := ((if_neg c_5).trans (if_pos c_13))
      rw [hf] at hret
      dsimp only at hret
      exact hret _ _ _ _ hP hS dX7_stays_18
