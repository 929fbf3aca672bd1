def v_X7_triesSet_24_0 (told : Nat → Int32) (barber : Int32) (person : Int32) (set_ : Int32) (i : Nat) (y11_w : Nat → Int32) : Nat → Int32 := if (f_X7_has set_ (nI i)) = 0 then y11_w else ((f_X7_shaves y11_w told 255 barber person (nI i)).2)
def nx_X7_triesSet_11 (told : Nat → Int32) (barber : Int32) (person : Int32) (set_ : Int32) (i : Nat) (y11_w : Nat → Int32) : (Nat → Int32) := (v_X7_triesSet_24_0 told barber person set_ i y11_w)
def x_X7_triesSet_11 (w : Nat → Int32) (told : Nat → Int32) (barber : Int32) (person : Int32) (set_ : Int32) : (Nat → Int32) := lp (fun iz z => nx_X7_triesSet_11 told barber person set_ iz z) (f_X7_copy w 0 255) 6
def f_X7_triesSet (w : Nat → Int32) (told : Nat → Int32) (barber : Int32) (person : Int32) (set_ : Int32) : (Nat → Int32) := (x_X7_triesSet_11 w told barber person set_)
abbrev rm_X7_triesSet : Room := { frames := 2, cells := 0, slots := 0, locals := 51 }
set_option maxRecDepth 100000 in
set_option maxHeartbeats 4000000 in
theorem k_X7_triesSet (l : Launch) (D : va_G) (cI cZ : ClassId) (u : Nat → Nat) (w : Nat → Int32) (told : Nat → Int32) (read : Nat → Int32) (isK : Nat → Int32) (undoes : Int32) (text : Nat → Int32) (texted : Int32) (seen : Int32) (seS : Nat → Int32) (seB : Nat → Int32) (seP : Nat → Int32) (at_ : Int32) (start : Int32) (clauses : Int32) (number : Int32) (word : Int64) (barber : Int32) (person : Int32) (set_ : Int32) (h_barber : kb barber 0 4) (h_person : kb person 0 6) : CV l D (kTy cI cZ) kT yX7_triesSet (.code yX7_triesSet cX7_triesSet 5 none :: wsL_law) rm_X7_triesSet [.ref (u 0), .int barber, .int person, .int set_] (wM cI cZ u w told read isK undoes text texted seen seS seB seP at_ start clauses number word) (wM cI cZ u (f_X7_triesSet w told barber person set_) told read isK undoes text texted seen seS seB seP at_ start clauses number word) := by
  refine CV.of (cc := cX7_triesSet) (maxL := 5) (by decide) rfl (Nat.le_of_ble_eq_true rfl) ?_
  intro p e s m args below meth c A Q ls hx hb hml hts0 hown hA hP hK hD hE hl hret
  have hts : ∀ w ∈ wsL_law, w.before args s = true := fun w h => hts0 w (List.mem_cons_of_mem _ h)
  clear hts0
  have hown : s.vm.findClass RX7 = some m.cls := hown
  have hl : lv_has ls 5 [(0, .ref (u 0)), (1, .int barber), (2, .int person), (3, .int set_)] := hl
  have hS : va_S A s.heap s.heap [] := va_S.rf
  revert hP hS
  suffices hgo : ∀ (H : Heap) (locs : List Loc), va_P D vwCl (wM cI cZ u w told read isK undoes text texted seen seS seB seP at_ start clauses number word) H → va_S A s.heap H locs → W p l e rm_X7_triesSet s m args below meth c H locs 0 0 Q (F0 m 0 ls []) from fun a b => hgo _ _ a b
  intro H locs hP hS
  refine lv_aload_n hx hb dX7_triesSet_0 rfl (lv_at hl 0 rfl) ?_
  refine lv_iconst (v := 0) hx hb dX7_triesSet_1 (by decide) ?_
  refine lv_sipush (v := 255) hx hb dX7_triesSet_2 (by decide) ?_
  refine kvv (As := [.int 0, .int 255]) (rest := []) (q0 := 0) (ci := 7) ⟨hx, hb, hml, hown, hts⟩ hP hK hD hS hA hE (k_X7_copy l D cI cZ  u w told read isK undoes text texted seen seS seB seP at_ start clauses number word 0 255 ((kb.lit 0).wide (by decide) (by decide)) ((kb.lit 255).wide (by decide) (by decide))) (kcv hts kM_X7_copy (kin_24 _ (List.mem_of_getElem? (i := 19) rfl)) ⟨rfl, rfl⟩ ⟨Nat.le_of_ble_eq_true rfl, Nat.le_of_ble_eq_true rfl⟩) kBl_T kOk_T (wM cI cZ u (f_X7_copy w 0 255) told read isK undoes text texted seen seS seB seP at_ start clauses number word) (cut_m_m cI cZ u w told read isK undoes text texted seen seS seB seP at_ start clauses number word (f_X7_copy w 0 255) told read isK undoes text texted seen seS seB seP at_ start clauses number word).1 (cut_m_m cI cZ u w told read isK undoes text texted seen seS seB seP at_ start clauses number word (f_X7_copy w 0 255) told read isK undoes text texted seen seS seB seP at_ start clauses number word).2 rfl rfl rfl rfl hl.1 rfl (Nat.le_of_ble_eq_true rfl) dX7_triesSet_5 (fun H locs hP hD hS => ?_)
  refine lv_iconst (v := 0) hx hb dX7_triesSet_8 (by decide) ?_
  refine lv_istore (lv' := [(4, .int 0), (0, .ref (u 0)), (1, .int barber), (2, .int person), (3, .int set_)]) hx hb dX7_triesSet_9 hl (by decide) rfl (fun ls hl => ?_)
  have lp11 : ∀ (k11 i : Nat) (y11_w : Nat → Int32), i + k11 = 6 → y11_w = lp (fun iz z => nx_X7_triesSet_11 told barber person set_ iz z) (f_X7_copy w 0 255) i → ∀ (H : Heap) (locs : List Loc) (ls : Array Slot), va_P D vwCl (wM cI cZ u y11_w told read isK undoes text texted seen seS seB seP at_ start clauses number word) H → va_D A (wM cI cZ u y11_w told read isK undoes text texted seen seS seB seP at_ start clauses number word) → va_S A s.heap H locs → lv_has ls 5 [(0, .ref (u 0)), (1, .int barber), (2, .int person), (3, .int set_), (4, .int (nI i))] → W p l e rm_X7_triesSet s m args below meth c H locs 0 0 Q (F0 m 11 ls []) := by
    intro k11
    induction k11 with
    | zero =>
      intro i y11_w hi11 ea11 H locs ls hP hD hS hl
      have hi11 : 6 = i := by omega
      subst hi11
      have ea11 : y11_w = (x_X7_triesSet_11 w told barber person set_) := ea11
      subst ea11
      refine lv_iload hx hb dX7_triesSet_11 (lv_at hl 4 rfl) ?_
      refine lv_bipush (v := 6) hx hb dX7_triesSet_13 (by decide) ?_
      refine lv_icmp_ge (tgt := 45) hx hb dX7_triesSet_15 (by decide) (fun _ => ?_) (fun c_15 => absurd (nI_le (Nat.le_refl _) (by decide)) c_15)
      have hf : (f_X7_triesSet w told barber person set_) = (x_X7_triesSet_11 w told barber person set_) := rfl
      rw [hf] at hret
      exact hret _ _ _ _ hP hS dX7_triesSet_45
    | succ k11 ih11 =>
      intro i y11_w hi11 ea11 H locs ls hP hD hS hl
      have hlt11 : i < 6 := by omega
      refine lv_iload hx hb dX7_triesSet_11 (lv_at hl 4 rfl) ?_
      refine lv_bipush (v := 6) hx hb dX7_triesSet_13 (by decide) ?_
      refine lv_icmp_ge (tgt := 45) hx hb dX7_triesSet_15 (by decide) (fun c_15 => absurd c_15 (nI_ge hlt11 (by decide))) (fun _ => ?_)
      refine lv_iload_n hx hb dX7_triesSet_18 rfl (lv_at hl 3 rfl) ?_
      refine lv_iload hx hb dX7_triesSet_19 (lv_at hl 4 rfl) ?_
      refine ksi (As := [.int set_, .int (nI i)]) (rest := []) ⟨hx, hb, hml, hown, hts⟩ hP hK hD hS hA hE (k_X7_has l D cI cZ  set_ (nI i)) (kcs hts kM_X7_has (kin_29 _ (List.mem_of_getElem? (i := 13) rfl)) ⟨rfl, rfl⟩ ⟨Nat.le_of_ble_eq_true rfl, Nat.le_of_ble_eq_true rfl⟩) kBl_T kOk_T rfl hl.1 rfl (Nat.le_of_ble_eq_true rfl) dX7_triesSet_21 (fun H locs hP hD hS => ?_)
      have J24 : ∀ (H : Heap) (locs : List Loc) (ls : Array Slot), va_P D vwCl (wM cI cZ u (v_X7_triesSet_24_0 told barber person set_ i y11_w) told read isK undoes text texted seen seS seB seP at_ start clauses number word) H → va_D A (wM cI cZ u (v_X7_triesSet_24_0 told barber person set_ i y11_w) told read isK undoes text texted seen seS seB seP at_ start clauses number word) → va_S A s.heap H locs → lv_has ls 5 [(0, .ref (u 0)), (1, .int barber), (2, .int person), (3, .int set_), (4, .int (nI i))] → W p l e rm_X7_triesSet s m args below meth c H locs 0 0 Q (F0 m 39 ls []) := by
        intro H locs ls hP hD hS hl
        refine lv_iinc (v := (nI (i + 1))) (lv' := [(4, .int (nI (i + 1))), (0, .ref (u 0)), (1, .int barber), (2, .int person), (3, .int set_)]) hx hb dX7_triesSet_39 hl (k := 4) rfl (nI_1 i) (by decide) rfl (fun ls hl => ?_)
        refine lv_goto (tgt := 11) hx hb dX7_triesSet_42 (by decide) ?_
        have hb11 : nx_X7_triesSet_11 told barber person set_ i y11_w = (v_X7_triesSet_24_0 told barber person set_ i y11_w) := rfl
        have hs11 : (lp (fun iz z => nx_X7_triesSet_11 told barber person set_ iz z) (f_X7_copy w 0 255) (i + 1) : (Nat → Int32)) = nx_X7_triesSet_11 told barber person set_ i (lp (fun iz z => nx_X7_triesSet_11 told barber person set_ iz z) (f_X7_copy w 0 255) i : (Nat → Int32)) := lp_succ _ _ _
        rw [← ea11] at hs11
        exact ih11 (i + 1) (v_X7_triesSet_24_0 told barber person set_ i y11_w) (by omega) (hb11.symm.trans hs11.symm) _ _ _ hP hD hS (lv_sub hl [1, 2, 3, 4, 0] rfl)
      refine lv_if_eq (tgt := 39) hx hb dX7_triesSet_24 (by decide) (fun c_24 => ?_) (fun c_24 => ?_)
      · skip
        rw [show (v_X7_triesSet_24_0 told barber person set_ i y11_w) = y11_w from (if_pos c_24)] at J24
        exact J24 _ _ _ hP hD hS (lv_sub hl [0, 1, 2, 3, 4] rfl)
      · skip
        refine lv_aload_n hx hb dX7_triesSet_27 rfl (lv_at hl 0 rfl) ?_
        refine lv_sipush (v := 255) hx hb dX7_triesSet_28 (by decide) ?_
        refine lv_iload_n hx hb dX7_triesSet_31 rfl (lv_at hl 1 rfl) ?_
        refine lv_iload_n hx hb dX7_triesSet_32 rfl (lv_at hl 2 rfl) ?_
        refine lv_iload hx hb dX7_triesSet_33 (lv_at hl 4 rfl) ?_
        refine kvi (As := [.int 255, .int barber, .int person, .int (nI i)]) (rest := []) (q0 := 0) (ci := 7) ⟨hx, hb, hml, hown, hts⟩ hP hK hD hS hA hE (k_X7_shaves l D cI cZ  u y11_w told read isK undoes text texted seen seS seB seP at_ start clauses number word 255 barber person (nI i) ((kb.lit 255).wide (by decide) (by decide)) (h_barber.wide (by decide) (by decide)) (h_person.wide (by decide) (by decide)) ((kb.mk hlt11).wide (by decide) (by decide))) (kcv hts kM_X7_shaves (kin_24 _ (List.mem_of_getElem? (i := 23) rfl)) ⟨rfl, rfl⟩ ⟨Nat.le_of_ble_eq_true rfl, Nat.le_of_ble_eq_true rfl⟩) kBl_T kOk_T (wM cI cZ u ((f_X7_shaves y11_w told 255 barber person (nI i)).2) told read isK undoes text texted seen seS seB seP at_ start clauses number word) (cut_m_m cI cZ u y11_w told read isK undoes text texted seen seS seB seP at_ start clauses number word ((f_X7_shaves y11_w told 255 barber person (nI i)).2) told read isK undoes text texted seen seS seB seP at_ start clauses number word).1 (cut_m_m cI cZ u y11_w told read isK undoes text texted seen seS seB seP at_ start clauses number word ((f_X7_shaves y11_w told 255 barber person (nI i)).2) told read isK undoes text texted seen seS seB seP at_ start clauses number word).2 rfl rfl rfl rfl hl.1 rfl (Nat.le_of_ble_eq_true rfl) dX7_triesSet_35 (fun H locs hP hD hS => ?_)
        refine lv_pop hx hb dX7_triesSet_38 rfl ?_
        rw [show (v_X7_triesSet_24_0 told barber person set_ i y11_w) = (f_X7_shaves y11_w told 255 barber person (nI i)).2 from (if_neg c_24)] at J24
        exact J24 _ _ _ hP hD hS (lv_sub hl [0, 1, 2, 3, 4] rfl)
  exact lp11 6 0 (f_X7_copy w 0 255) (Nat.zero_add _) (lp_zero _ _).symm _ _ _ hP hD hS (lv_sub hl [1, 2, 3, 4, 0] rfl)
