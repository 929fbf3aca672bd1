/-! calls of the strings' own methods -/
theorem ksh0 : ∀ i, i < 7 → nI (kSl.getD i 0) >>> ((0 : Int32) &&& 31) = nI (kSl.getD i 0) := by decide +kernel
theorem kgo {tys : List (ClassId × FieldType)} {W0 : va_W} {A0 : Nat → Prop} {s : State} {D : va_G} {H H1 : Heap} (hP : va_P D vwCl W0 H) (hk1 : ∀ q : Nat, q < H.size → ¬ va_A [] H.size q → H1[q]? = H[q]?) : va_P D vwCl W0 H1 :=
  hP.kept (fun k q hq => hk1 q.1 ((hP k q hq).lt) (fun h => by
    rcases h with ⟨k2, e2, h⟩ | h
    · simp at h
    · exact absurd ((hP k q hq).lt) (by omega)))
section KS
variable {p : Program} {l : Launch} {e : Env} {R : Room} {s : State} {m : MethodId} {args : Array Value} {below : List Frame} {meth : Method} {c : Code} {H : Heap} {locs : List Loc} {Q : State → Prop}
variable {D : va_G} {tys : List (ClassId × FieldType)} {E0 E : kE} {A0 : Nat → Prop} {W0 : va_W} {cc bytes : ByteArray} {nL n index maxL pc : Nat} {own C : String} {y : MethodName} {ret : Option FieldType} {ws Ts : List Cond} {rm : Room} {As rest st : List Value} {ls : Array Slot} {r : Int32}
theorem ksv (S : CallFix p m c cc nL s args Ts own) (hP : va_P D vwCl W0 H) (hK : va_K D vwCl tys s) (hD : va_D A0 W0) (hS : va_S A0 s.heap H locs) (hA : ∀ q : Nat, s.heap.size ≤ q → A0 q) (hE : E0 A0 s)
    (hC : CV l D tys E y ws rm As [] []) (cw : CallB R s args own index y bytes maxL ret ws rm 0 0 n ∧ (Cond.static y).before args s = true) (bl : kBl E) (ok : kOk E0 E)
    (hn : As.length = n) (hsize : ls.size = nL) (hst : st = As.reverse ++ rest) (hW : (rest.map fun v => v.category).sum ≤ 8) (hdg : decode cc pc = .ok (.invokestatic index, 3))
    (kk : ∀ (H1 : Heap) (locs1 : List Loc), va_P D vwCl W0 H1 → va_D A0 W0 → va_S A0 s.heap H1 locs1 → W p l e R s m args below meth c H1 locs1 0 0 Q (F0 m (pc + 3) ls rest)) : W p l e R s m args below meth c H locs 0 0 Q (F0 m pc ls st) := by
  obtain ⟨hx, hb, hml, hown, hts⟩ := S
  have hPc : va_P D vwCl [] H := fun k q h => by simp at h
  have hDc : va_D A0 [] := ⟨fun i j p q h => by simp at h, fun k q h => by simp at h⟩
  have hF : ∀ q, va_A [] H.size q → A0 q := va_free hD hS hA [] rfl
  refine va_callv (va_runS (As := As) (rest := rest) ⟨hx, hb, hml, hown, hts⟩ (hC H.size) cw ⟨kblind bl, fun U hU hW => ⟨rfl, kpre hS.1 hPc hK hDc hS hF hE ok U hU hW⟩⟩ rfl hn hsize hst (lv_room hW) hdg ⟨Nat.zero_le _, Nat.zero_le _⟩) hS (fun q _ h => hF q h) hF (fun u t H1 locs1 ht hvm hw hB hz1 hk1 hS1 => ?_)
  exact kk H1 locs1 (kgo (tys := tys) (A0 := A0) (s := s) hP hk1) hD hS1
/-- a method of the string i -/
theorem kvs {adK adV : Nat → Nat} {i : Nat} (hi : i < 7) (S : CallFix p m c cc nL s args Ts own) (hP : va_P D vwCl W0 H) (hK : va_K D vwCl tys s) (hD : va_D A0 W0) (hS : va_S A0 s.heap H locs) (hA : ∀ q : Nat, s.heap.size ≤ q → A0 q) (hE : kG adK adV A0 s)
    (hC : CI l D tys E y ws rm (.ref (adK i) :: As) [] [] r) (cw : CallW R s args own "java/lang/String" index y bytes maxL ret ws rm 0 0 n) (bl : kBl E) (ok : kOk (kG adK adV) E)
    (hn : As.length = n) (hsize : ls.size = nL) (hst : st = As.reverse ++ .ref (adK i) :: rest) (hW : (rest.map fun v => v.category).sum ≤ 8) (hdg : decode cc pc = .ok (.invokevirtual index, 3))
    (kk : ∀ (H1 : Heap) (locs1 : List Loc), va_P D vwCl W0 H1 → va_D A0 W0 → va_S A0 s.heap H1 locs1 → W p l e R s m args below meth c H1 locs1 0 0 Q (F0 m (pc + 3) ls (.int r :: rest))) : W p l e R s m args below meth c H locs 0 0 Q (F0 m pc ls st) := by
  obtain ⟨hx, hb, hml, hown, hts⟩ := S
  have hPc : va_P D vwCl [] H := fun k q h => by simp at h
  have hDc : va_D A0 [] := ⟨fun i j p q h => by simp at h, fun k q h => by simp at h⟩
  have hF : ∀ q, va_A [] H.size q → A0 q := va_free hD hS hA [] rfl
  refine va_calli (va_runV (As := As) (rest := rest) ⟨hx, hb, hml, hown, hts⟩ (hC H.size) cw ⟨kblind bl, vk_recv hE.2.1 hi hS, fun U hU hW => ⟨rfl, kpre hS.1 hPc hK hDc hS hF hE ok U hU hW⟩⟩ rfl hn hsize hst (lv_room hW) hdg ⟨Nat.zero_le _, Nat.zero_le _⟩) hS (fun q _ h => hF q h) hF (fun r1 u t H1 locs1 ht hvm hw hB hz1 hk1 hS1 => ?_)
  subst hw
  exact kk H1 locs1 (kgo (tys := tys) (A0 := A0) (s := s) hP hk1) hD hS1
end KS
abbrev rm_J3_checkIndex : Room := { frames := 0, cells := 0, slots := 0, locals := 0 }
set_option maxRecDepth 100000 in
set_option maxHeartbeats 4000000 in
theorem k_J3_checkIndex (l : Launch) (D : va_G) (cI cZ : ClassId) (adK adV : Nat → Nat) (x y : Int32) (z : Option Nat) (h1 : ¬ x < 0) (h2 : x < y) : CI l D (kTy cI cZ) (kG adK adV) yJ3_checkIndex_8e157 (.code yJ3_checkIndex_8e157 cJ3_checkIndex_8e157 3 (some .int) :: wsL_law) rm_J3_checkIndex [.int x, .int y, va_rf z] [] [] x := by
  cases z <;>
  · skip
    refine CI.of (cc := cJ3_checkIndex_8e157) (maxL := 3) (ty := .int) (by decide) rfl (Nat.le_of_ble_eq_true rfl) rfl ?_
    intro p e s m args below meth c A Q ls hx hb hml hts0 hown hA hP hK hD hE hl hret
    have hts : ∀ w ∈ wsL_law, w.before args s = true := fun w h => hts0 w (List.mem_cons_of_mem _ h)
    clear hts0
    have hown : s.vm.findClass RJ3 = some m.cls := hown
    have hS : va_S A s.heap s.heap [] := va_S.rf
    refine lv_iload_n hx hb dJ3_checkIndex_8e157_0 rfl (lv_at hl 0 rfl) ?_
    refine lv_if_lt (tgt := 9) hx hb dJ3_checkIndex_8e157_1 (by decide) (fun c1 => absurd c1 h1) (fun c1 => ?_)
    refine lv_iload_n hx hb dJ3_checkIndex_8e157_4 rfl (lv_at hl 0 rfl) ?_
    refine lv_iload_n hx hb dJ3_checkIndex_8e157_5 rfl (lv_at hl 1 rfl) ?_
    refine lv_icmp_lt (tgt := 16) hx hb dJ3_checkIndex_8e157_6 (by decide) (fun c2 => ?_) (fun c2 => absurd h2 c2)
    refine lv_iload_n hx hb dJ3_checkIndex_8e157_16 rfl (lv_at hl 0 rfl) ?_
    exact hret _ _ _ _ hP hS dJ3_checkIndex_8e157_17
abbrev rm_J0_checkIndex : Room := { frames := 1, cells := 0, slots := 0, locals := 22 }
set_option maxRecDepth 100000 in
set_option maxHeartbeats 4000000 in
theorem k_J0_checkIndex (l : Launch) (D : va_G) (cI cZ : ClassId) (adK adV : Nat → Nat) (x y : Int32) (h1 : ¬ x < 0) (h2 : x < y) : CV l D (kTy cI cZ) (kG adK adV) yJ0_checkIndex_df160 (.code yJ0_checkIndex_df160 cJ0_checkIndex_df160 2 none :: wsL_law) rm_J0_checkIndex [.int x, .int y] [] [] := by
  refine CV.of (cc := cJ0_checkIndex_df160) (maxL := 2) (by decide) rfl (Nat.le_of_ble_eq_true rfl) ?_
  intro p e s m args below meth c A Q ls hx hb hml hts0 hown hA hP hK hD hE hl hret
  have hts : ∀ w ∈ wsL_law, w.before args s = true := fun w h => hts0 w (List.mem_cons_of_mem _ h)
  clear hts0
  have hown : s.vm.findClass RJ0 = some m.cls := hown
  have hl : lv_has ls 2 [(0, .int x), (1, .int y)] := hl
  have hS : va_S A s.heap s.heap [] := va_S.rf
  refine lv_iload_n hx hb dJ0_checkIndex_df160_0 rfl (lv_at hl 0 rfl) ?_
  refine lv_iload_n hx hb dJ0_checkIndex_df160_1 rfl (lv_at hl 1 rfl) ?_
  have hZ := hE.2.2.2.2
  obtain ⟨z, hz⟩ : ∃ z : Option Nat, va_Z "jdk/internal/util/Preconditions" "SIOOBE_FORMATTER" "Ljava/util/function/BiFunction;" (va_rf z) A s s.heap := by
    rcases hZ with h | ⟨t, h⟩
    · exact ⟨none, h⟩
    · exact ⟨some t, h⟩
  refine va_gets hx hb hz hS hown (kw hts kin_9 18 rfl) (fun _ h9 => h9) dJ0_checkIndex_df160_2 ?_
  refine ksi (As := [.int x, .int y, va_rf z]) (rest := []) ⟨hx, hb, hml, hown, hts⟩ hP hK hD hS hA hE (k_J3_checkIndex l D cI cZ adK adV x y z h1 h2) (kcs hts kM_J3_checkIndex_8e157 (kin_9 _ (List.mem_of_getElem? (i := 19) rfl)) ⟨rfl, rfl⟩ ⟨Nat.le_of_ble_eq_true rfl, Nat.le_of_ble_eq_true rfl⟩) kBl_G kOk_G rfl hl.1 rfl (Nat.le_of_ble_eq_true rfl) dJ0_checkIndex_df160_5 (fun H locs hP hD hS => ?_)
  refine lv_pop hx hb dJ0_checkIndex_df160_8 rfl ?_
  exact hret _ _ _ _ hP hS dJ0_checkIndex_df160_9
/-- the char at k of the string i -/
def kch (i k : Nat) : Int32 := (((kSb.getD i []).getD k 0 &&& 255).toUInt32 % 65536).toInt32
theorem kch_char : ∀ i, i < 7 → ∀ k, k < 8 → narrow .char (.int (kch i k)) = .int (kch i k) := by decide +kernel
theorem kSl_lt : ∀ i, i < 7 → kSl.getD i 0 < 9 := by decide +kernel
theorem kSl_lt2 : ∀ i, i < 7 → kSl.getD i 0 < 2147483648 := by decide +kernel
abbrev rm_J1_charAt : Room := { frames := 2, cells := 0, slots := 0, locals := 43 }
set_option maxRecDepth 100000 in
set_option maxHeartbeats 4000000 in
theorem k_J1_charAt (l : Launch) (D : va_G) (cI cZ : ClassId) (adK adV : Nat → Nat) (i k : Nat) (hi : i < 7) (hk : k < kSl.getD i 0) : CI l D (kTy cI cZ) (kG adK adV) yJ1_charAt_3b067 (.code yJ1_charAt_3b067 cJ1_charAt_3b067 2 (some .char) :: wsL_law) rm_J1_charAt [.ref (adV i), .int (nI k)] [] [] (kch i k) := by
  have hk8 : k < 8 := by have := kSl_lt i hi; omega
  refine CI.of (cc := cJ1_charAt_3b067) (maxL := 2) (ty := .char) (by decide) rfl (Nat.le_of_ble_eq_true rfl) (kch_char i hi k hk8) ?_
  intro p e s m args below meth c A Q ls hx hb hml hts0 hown hA hP hK hD hE hl hret
  have hts : ∀ w ∈ wsL_law, w.before args s = true := fun w h => hts0 w (List.mem_cons_of_mem _ h)
  clear hts0
  have hown : s.vm.findClass RJ1 = some m.cls := hown
  have hl : lv_has ls 2 [(0, .ref (adV i)), (1, .int (nI k))] := hl
  have hS : va_S A s.heap s.heap [] := va_S.rf
  have hT := (hE.2.1.1 i hi).2.2.2
  refine lv_iload_n hx hb dJ1_charAt_3b067_0 rfl (lv_at hl 1 rfl) ?_
  refine lv_aload_n hx hb dJ1_charAt_3b067_1 rfl (lv_at hl 0 rfl) ?_
  refine va_tlen (v := nI (kSl.getD i 0)) hx hb hT hS rfl dJ1_charAt_3b067_2 ?_
  refine ksv (As := [.int (nI k), .int (nI (kSl.getD i 0))]) (rest := []) ⟨hx, hb, hml, hown, hts⟩ hP hK hD hS hA hE (k_J0_checkIndex l D cI cZ adK adV (nI k) (nI (kSl.getD i 0)) (nI_pos (by omega)) (nI_lt hk (kSl_lt2 i hi))) (kcs hts kM_J0_checkIndex_df160 (kin_9 _ (List.mem_of_getElem? (i := 15) rfl)) ⟨rfl, rfl⟩ ⟨Nat.le_of_ble_eq_true rfl, Nat.le_of_ble_eq_true rfl⟩) kBl_G kOk_G rfl hl.1 rfl (Nat.le_of_ble_eq_true rfl) dJ1_charAt_3b067_3 (fun H locs hP hD hS => ?_)
  refine lv_aload_n hx hb dJ1_charAt_3b067_6 rfl (lv_at hl 0 rfl) ?_
  refine lv_iload_n hx hb dJ1_charAt_3b067_7 rfl (lv_at hl 1 rfl) ?_
  refine va_tb hx hb hT hS (vp_in_nI hk (kSl_lt2 i hi)) (v := .int ((kSb.getD i []).getD k 0)) (by rw [nI_clamp (by omega)]) dJ1_charAt_3b067_8 ?_
  refine lv_sipush (v := 255) hx hb dJ1_charAt_3b067_9 (by decide) ?_
  refine lv_iand hx hb dJ1_charAt_3b067_12 ?_
  refine lv_i2c (v := kch i k) hx hb dJ1_charAt_3b067_13 rfl ?_
  exact hret _ _ _ _ hP hS dJ1_charAt_3b067_14
abbrev rm_J0_isLatin1 : Room := { frames := 0, cells := 0, slots := 0, locals := 0 }
set_option maxRecDepth 100000 in
set_option maxHeartbeats 4000000 in
theorem k_J0_isLatin1 (l : Launch) (D : va_G) (cI cZ : ClassId) (adK adV : Nat → Nat) (i : Nat) (hi : i < 7) : CI l D (kTy cI cZ) (kG adK adV) yJ0_isLatin1_aae02 (.code yJ0_isLatin1_aae02 cJ0_isLatin1_aae02 1 (some .boolean) :: wsL_law) rm_J0_isLatin1 [.ref (adK i)] [] [] 1 := by
  refine CI.of (cc := cJ0_isLatin1_aae02) (maxL := 1) (ty := .boolean) (by decide) rfl (Nat.le_of_ble_eq_true rfl) rfl ?_
  intro p e s m args below meth c A Q ls hx hb hml hts0 hown hA hP hK hD hE hl hret
  have hts : ∀ w ∈ wsL_law, w.before args s = true := fun w h => hts0 w (List.mem_cons_of_mem _ h)
  clear hts0
  have hown : s.vm.findClass RJ0 = some m.cls := hown
  have hl : lv_has ls 1 [(0, .ref (adK i))] := hl
  have hS : va_S A s.heap s.heap [] := va_S.rf
  have hZ := hE.2.2.2.1
  have hC := (hE.2.1.1 i hi).2.1
  refine va_gets hx hb hZ hS hown (kw hts kin_9 1 rfl) (fun _ h9 => h9) dJ0_isLatin1_aae02_0 ?_
  refine lv_if_eq (tgt := 17) hx hb dJ0_isLatin1_aae02_3 (by decide) (fun c1 => absurd c1 (by decide)) (fun _ => ?_)
  refine lv_aload_n hx hb dJ0_isLatin1_aae02_6 rfl (lv_at hl 0 rfl) ?_
  refine vk_getf hx hb hC hS hown (kw hts kin_9 2 rfl) (fun _ h9 => h9) dJ0_isLatin1_aae02_7 ?_
  refine lv_if_ne (tgt := 17) hx hb dJ0_isLatin1_aae02_10 (by decide) (fun c1 => absurd rfl c1) (fun _ => ?_)
  refine lv_iconst (v := 1) hx hb dJ0_isLatin1_aae02_13 (by decide) ?_
  refine lv_goto (tgt := 18) hx hb dJ0_isLatin1_aae02_14 (by decide) ?_
  exact hret _ _ _ _ hP hS dJ0_isLatin1_aae02_18
abbrev rm_J0_coder : Room := { frames := 0, cells := 0, slots := 0, locals := 0 }
set_option maxRecDepth 100000 in
set_option maxHeartbeats 4000000 in
theorem k_J0_coder (l : Launch) (D : va_G) (cI cZ : ClassId) (adK adV : Nat → Nat) (i : Nat) (hi : i < 7) : CI l D (kTy cI cZ) (kG adK adV) yJ0_coder_7d493 (.code yJ0_coder_7d493 cJ0_coder_7d493 1 (some .byte) :: wsL_law) rm_J0_coder [.ref (adK i)] [] [] 0 := by
  refine CI.of (cc := cJ0_coder_7d493) (maxL := 1) (ty := .byte) (by decide) rfl (Nat.le_of_ble_eq_true rfl) rfl ?_
  intro p e s m args below meth c A Q ls hx hb hml hts0 hown hA hP hK hD hE hl hret
  have hts : ∀ w ∈ wsL_law, w.before args s = true := fun w h => hts0 w (List.mem_cons_of_mem _ h)
  clear hts0
  have hown : s.vm.findClass RJ0 = some m.cls := hown
  have hl : lv_has ls 1 [(0, .ref (adK i))] := hl
  have hS : va_S A s.heap s.heap [] := va_S.rf
  have hZ := hE.2.2.2.1
  have hC := (hE.2.1.1 i hi).2.1
  refine va_gets hx hb hZ hS hown (kw hts kin_9 1 rfl) (fun _ h9 => h9) dJ0_coder_7d493_0 ?_
  refine lv_if_eq (tgt := 13) hx hb dJ0_coder_7d493_3 (by decide) (fun c1 => absurd c1 (by decide)) (fun _ => ?_)
  refine lv_aload_n hx hb dJ0_coder_7d493_6 rfl (lv_at hl 0 rfl) ?_
  refine vk_getf hx hb hC hS hown (kw hts kin_9 2 rfl) (fun _ h9 => h9) dJ0_coder_7d493_7 ?_
  refine lv_goto (tgt := 14) hx hb dJ0_coder_7d493_10 (by decide) ?_
  exact hret _ _ _ _ hP hS dJ0_coder_7d493_14
abbrev rm_J0_length : Room := { frames := 1, cells := 0, slots := 0, locals := 20 }
set_option maxRecDepth 100000 in
set_option maxHeartbeats 4000000 in
theorem k_J0_length (l : Launch) (D : va_G) (cI cZ : ClassId) (adK adV : Nat → Nat) (i : Nat) (hi : i < 7) : CI l D (kTy cI cZ) (kG adK adV) yJ0_length_8abf5 (.code yJ0_length_8abf5 cJ0_length_8abf5 1 (some .int) :: wsL_law) rm_J0_length [.ref (adK i)] [] [] (nI (kSl.getD i 0)) := by
  refine CI.of (cc := cJ0_length_8abf5) (maxL := 1) (ty := .int) (by decide) rfl (Nat.le_of_ble_eq_true rfl) rfl ?_
  intro p e s m args below meth c A Q ls hx hb hml hts0 hown hA hP hK hD hE hl hret
  have hts : ∀ w ∈ wsL_law, w.before args s = true := fun w h => hts0 w (List.mem_cons_of_mem _ h)
  clear hts0
  have hown : s.vm.findClass RJ0 = some m.cls := hown
  have hl : lv_has ls 1 [(0, .ref (adK i))] := hl
  have hS : va_S A s.heap s.heap [] := va_S.rf
  have hsh : nI (kSl.getD i 0) = nI (kSl.getD i 0) >>> ((0 : Int32) &&& 31) := (ksh0 i hi).symm
  rw [hsh] at hret
  have hV := (hE.2.1.1 i hi).2.2.1
  have hT := (hE.2.1.1 i hi).2.2.2
  refine lv_aload_n hx hb dJ0_length_8abf5_0 rfl (lv_at hl 0 rfl) ?_
  refine vk_getf hx hb hV hS hown (kw hts kin_8 20 rfl) (fun _ h9 => h9) dJ0_length_8abf5_1 ?_
  refine va_tlen (v := nI (kSl.getD i 0)) hx hb hT hS rfl dJ0_length_8abf5_4 ?_
  refine lv_aload_n hx hb dJ0_length_8abf5_5 rfl (lv_at hl 0 rfl) ?_
  refine kvs (As := []) (rest := [.int (nI (kSl.getD i 0))]) (i := i) hi ⟨hx, hb, hml, hown, hts⟩ hP hK hD hS hA hE (k_J0_coder l D cI cZ adK adV i hi) (kcv hts kM_J0_coder_7d493 (kin_8 _ (List.mem_of_getElem? (i := 21) rfl)) ⟨rfl, rfl⟩ ⟨Nat.le_of_ble_eq_true rfl, Nat.le_of_ble_eq_true rfl⟩) kBl_G kOk_G rfl hl.1 rfl (Nat.le_of_ble_eq_true rfl) dJ0_length_8abf5_6 (fun H locs hP hD hS => ?_)
  refine lv_ishr hx hb dJ0_length_8abf5_9 ?_
  exact hret _ _ _ _ hP hS dJ0_length_8abf5_10
abbrev rm_J0_charAt : Room := { frames := 3, cells := 0, slots := 0, locals := 64 }
set_option maxRecDepth 100000 in
set_option maxHeartbeats 4000000 in
theorem k_J0_charAt (l : Launch) (D : va_G) (cI cZ : ClassId) (adK adV : Nat → Nat) (i k : Nat) (hi : i < 7) (hk : k < kSl.getD i 0) : CI l D (kTy cI cZ) (kG adK adV) yJ0_charAt_5068e (.code yJ0_charAt_5068e cJ0_charAt_5068e 2 (some .char) :: wsL_law) rm_J0_charAt [.ref (adK i), .int (nI k)] [] [] (kch i k) := by
  have hk8 : k < 8 := by have := kSl_lt i hi; omega
  refine CI.of (cc := cJ0_charAt_5068e) (maxL := 2) (ty := .char) (by decide) rfl (Nat.le_of_ble_eq_true rfl) (kch_char i hi k hk8) ?_
  intro p e s m args below meth c A Q ls hx hb hml hts0 hown hA hP hK hD hE hl hret
  have hts : ∀ w ∈ wsL_law, w.before args s = true := fun w h => hts0 w (List.mem_cons_of_mem _ h)
  clear hts0
  have hown : s.vm.findClass RJ0 = some m.cls := hown
  have hl : lv_has ls 2 [(0, .ref (adK i)), (1, .int (nI k))] := hl
  have hS : va_S A s.heap s.heap [] := va_S.rf
  have hV := (hE.2.1.1 i hi).2.2.1
  refine lv_aload_n hx hb dJ0_charAt_5068e_0 rfl (lv_at hl 0 rfl) ?_
  refine kvs (As := []) (rest := []) (i := i) hi ⟨hx, hb, hml, hown, hts⟩ hP hK hD hS hA hE (k_J0_isLatin1 l D cI cZ adK adV i hi) (kcv hts kM_J0_isLatin1_aae02 (kin_9 _ (List.mem_of_getElem? (i := 7) rfl)) ⟨rfl, rfl⟩ ⟨Nat.le_of_ble_eq_true rfl, Nat.le_of_ble_eq_true rfl⟩) kBl_G kOk_G rfl hl.1 rfl (Nat.le_of_ble_eq_true rfl) dJ0_charAt_5068e_1 (fun H locs hP hD hS => ?_)
  refine lv_if_eq (tgt := 16) hx hb dJ0_charAt_5068e_4 (by decide) (fun c1 => absurd c1 (by decide)) (fun _ => ?_)
  refine lv_aload_n hx hb dJ0_charAt_5068e_7 rfl (lv_at hl 0 rfl) ?_
  refine vk_getf hx hb hV hS hown (kw hts kin_8 20 rfl) (fun _ h9 => h9) dJ0_charAt_5068e_8 ?_
  refine lv_iload_n hx hb dJ0_charAt_5068e_11 rfl (lv_at hl 1 rfl) ?_
  refine ksi (As := [.ref (adV i), .int (nI k)]) (rest := []) ⟨hx, hb, hml, hown, hts⟩ hP hK hD hS hA hE (k_J1_charAt l D cI cZ adK adV i k hi hk) (kcs hts kM_J1_charAt_3b067 (kin_9 _ (List.mem_of_getElem? (i := 11) rfl)) ⟨rfl, rfl⟩ ⟨Nat.le_of_ble_eq_true rfl, Nat.le_of_ble_eq_true rfl⟩) kBl_G kOk_G rfl hl.1 rfl (Nat.le_of_ble_eq_true rfl) dJ0_charAt_5068e_12 (fun H locs hP hD hS => ?_)
  exact hret _ _ _ _ hP hS dJ0_charAt_5068e_15
