def s_X0_indexInPage (pl : Int32) : Int32 :=
  ush (pl &&& 1023) 2
set_option maxHeartbeats 4000000 in
set_option maxRecDepth 100000 in
theorem c_X0_indexInPage (l : Launch) (pl : Int32)  : Met l yX0_indexInPage wsX0_indexInPage ({ frames := 0, cells := 0, slots := 0, locals := 0 }) (va_Pc [.int pl] (fun U => True)) (vp_Si (fun x_ => x_ = s_X0_indexInPage pl)) 0 0 (fun _ => False) := by
  refine Met.ofW (cc := cX0_indexInPage) (maxL := 1) (ret := (some .int)) (by decide) rfl ?_
  intro p e s m args below meth c s₁ B hml hv
  obtain ⟨rfl, -⟩ := hv
  have hx := B.exec
  have hb := B.bytes
  have hr := B.returns
  have hts := atoms_spec (ws := wsX0_indexInPage) B.pre
  have hown : s.vm.findClass RX0 = some m.cls := findClass_of_methodNamed B.named
  have hlocks := B.notSynchronized
  have hl := lv_entry ([.int pl]) (n := 1) (Nat.le_of_ble_eq_true rfl)
  rw [lg_entry_eq]
  generalize (lg_sl ([.int pl]) ++ List.replicate (1 - (lg_sl ([.int pl])).length) Slot.unset).toArray = ls at hl ⊢
  have hl : lv_has ls 1 [(0, .int pl)] := hl
  refine lv_iload_n hx hb dX0_indexInPage_0 rfl (lv_at hl 0 rfl) ?_
  refine lv_sipush (v := 1023) hx hb dX0_indexInPage_1 (by decide) ?_
  refine lv_iand hx hb dX0_indexInPage_4 ?_
  refine lv_iconst (v := 2) hx hb dX0_indexInPage_5 (by decide) ?_
  refine lv_iushr (v := ush (pl &&& 1023) 2) hx hb dX0_indexInPage_6 rfl ?_
  exact W.iret (v := ush (pl &&& 1023) 2) hx hb hr (fun t ht hW => ⟨ush (pl &&& 1023) 2, rfl, by first | rfl | (unfold s_X0_indexInPage; rfl), ht⟩) (fun q h => by cases h) dX0_indexInPage_7
def s_X0_byteShift (pl : Int32) : Int32 :=
  (3 - (pl &&& 3)) * 8
set_option maxHeartbeats 4000000 in
set_option maxRecDepth 100000 in
theorem c_X0_byteShift (l : Launch) (pl : Int32)  : Met l yX0_byteShift wsX0_byteShift ({ frames := 0, cells := 0, slots := 0, locals := 0 }) (va_Pc [.int pl] (fun U => True)) (vp_Si (fun x_ => x_ = s_X0_byteShift pl)) 0 0 (fun _ => False) := by
  refine Met.ofW (cc := cX0_byteShift) (maxL := 1) (ret := (some .int)) (by decide) rfl ?_
  intro p e s m args below meth c s₁ B hml hv
  obtain ⟨rfl, -⟩ := hv
  have hx := B.exec
  have hb := B.bytes
  have hr := B.returns
  have hts := atoms_spec (ws := wsX0_byteShift) B.pre
  have hown : s.vm.findClass RX0 = some m.cls := findClass_of_methodNamed B.named
  have hlocks := B.notSynchronized
  have hl := lv_entry ([.int pl]) (n := 1) (Nat.le_of_ble_eq_true rfl)
  rw [lg_entry_eq]
  generalize (lg_sl ([.int pl]) ++ List.replicate (1 - (lg_sl ([.int pl])).length) Slot.unset).toArray = ls at hl ⊢
  have hl : lv_has ls 1 [(0, .int pl)] := hl
  refine lv_iconst (v := 3) hx hb dX0_byteShift_0 (by decide) ?_
  refine lv_iload_n hx hb dX0_byteShift_1 rfl (lv_at hl 0 rfl) ?_
  refine lv_iconst (v := 3) hx hb dX0_byteShift_2 (by decide) ?_
  refine lv_iand hx hb dX0_byteShift_3 ?_
  refine lv_isub hx hb dX0_byteShift_4 ?_
  refine lv_bipush (v := 8) hx hb dX0_byteShift_5 (by decide) ?_
  refine lv_imul hx hb dX0_byteShift_7 ?_
  exact W.iret (v := (3 - (pl &&& 3)) * 8) hx hb hr (fun t ht hW => ⟨(3 - (pl &&& 3)) * 8, rfl, by first | rfl | (unfold s_X0_byteShift; rfl), ht⟩) (fun q h => by cases h) dX0_byteShift_8
set_option maxRecDepth 100000 in
theorem mbX0_wordAt_0 : (.constant RX0 17 (65536) : Cond) ∈ wsX0_wordAt := by decide +kernel
set_option maxRecDepth 100000 in
theorem miX0_wordAt_X0 : ∀ w ∈ u_ws RX0 TX0 1, w ∈ wsX0_wordAt := by decide +kernel
set_option maxRecDepth 100000 in
theorem mbX0_wordAt_2 : (.fieldLink RX0 11 "SoftMaps$Memory" "pages" "[[I" : Cond) ∈ wsX0_wordAt := by decide +kernel
set_option maxHeartbeats 4000000 in
set_option maxRecDepth 100000 in
theorem c_X0_wordAt (l : Launch) (dC : Nat → ClassId) (dI : Nat → Nat → Nat) (me pg : Nat) (cP cI : ClassId) (g : Nat → Option Nat) (LP : List Nat) (r : Nat → Nat → Int32) (pl : Int32) (hm : mok g LP) : Met l yX0_wordAt wsX0_wordAt ({ frames := 1, cells := 0, slots := 0, locals := 20 }) (va_Pc [.ref me, .int pl] (fun U => va_P (dC, dI) vwCl ([(me, .inr (0, [.ref pg])), (pg, .inl (cP, 64, .inr (.inr (.inr (.inr g)))))] ++ va_pl LP (prow cI r)) U.heap ∧ va_K (dC, dI) vwCl [(cP, .array .int), (cI, .int)] U)) (vp_Si (fun x => x = m_get (mw g r) pl)) 0 0 (fun _ => False) := by
  refine Met.ofW (cc := cX0_wordAt) (maxL := 3) (ret := (some .int)) (by decide) rfl ?_
  intro p e s m args below meth c s₁ B hml hv
  obtain ⟨rfl, hP, hK⟩ := hv
  have hx := B.exec
  have hb := B.bytes
  have hr := B.returns
  have hts := atoms_spec (ws := wsX0_wordAt) B.pre
  have hown : s.vm.findClass RX0 = some m.cls := findClass_of_methodNamed B.named
  have hlocks := B.notSynchronized
  have hl := lv_entry ([.ref me, .int pl]) (n := 3) (Nat.le_of_ble_eq_true rfl)
  rw [lg_entry_eq]
  generalize (lg_sl ([.ref me, .int pl]) ++ List.replicate (3 - (lg_sl ([.ref me, .int pl])).length) Slot.unset).toArray = ls at hl ⊢
  have hl : lv_has ls 3 [(0, .ref me), (1, .int pl)] := hl
  have hP : va_P (dC, dI) vwCl ([(me, .inr (0, [.ref pg])), (pg, .inl (cP, 64, .inr (.inr (.inr (.inr g)))))] ++ va_pl LP (prow cI r)) s.heap := hP
  refine lv_iload_n hx hb dX0_wordAt_0 rfl (lv_at hl 1 rfl) ?_
  refine lv_if_lt (tgt := 10) hx hb dX0_wordAt_1 (by decide) (fun c_1 => ?_) (fun c_1 => ?_)
  · skip
    refine lv_iconst (v := 0) hx hb dX0_wordAt_10 (by decide) ?_
    exact W.iret (v := 0) hx hb hr (fun t ht hW => ⟨0, rfl, by simp only [m_get, if_pos c_1], ht⟩) (fun q h => by cases h) dX0_wordAt_11
  · skip
    refine lv_iload_n hx hb dX0_wordAt_4 rfl (lv_at hl 1 rfl) ?_
    refine lv_ldc (v := 65536) hx hb hown (hts _ mbX0_wordAt_0) dX0_wordAt_5 ?_
    refine lv_icmp_lt (tgt := 12) hx hb dX0_wordAt_7 (by decide) (fun c_2 => ?_) (fun c_2 => ?_)
    · skip
      refine lv_aload_n hx hb dX0_wordAt_12 rfl (lv_at hl 0 rfl) ?_
      refine va_get (D := (dC, dI)) (ci := 0) (v := .ref pg) (C := RX0) (T := TX0) (N := 1) hx hb hts miX0_wordAt_X0 hown hK hP 0 rfl rfl 0 (by decide) (hts _ mbX0_wordAt_2) (fun _ h9 => h9) rfl dX0_wordAt_13 ?_
      refine lv_iload_n hx hb dX0_wordAt_16 rfl (lv_at hl 1 rfl) ?_
      refine lv_bipush (v := 10) hx hb dX0_wordAt_17 (by decide) ?_
      refine lv_iushr (v := ush pl 10) hx hb dX0_wordAt_19 rfl ?_
      refine ag_ld hx hb hK hP 1 0 rfl rfl (pg_in c_1 (Int32.not_le.mpr c_2)) dX0_wordAt_20 ?_
      cases hg_3 : g (ush pl 10).toNatClampNeg with
      | none =>
        refine W.eq (g2 := F0 m 21 ls [.null]) rfl ?_
        refine lv_astore_nN (lv' := [(2, .null), (0, .ref me), (1, .int pl)]) hx hb dX0_wordAt_21 rfl hl (by decide) rfl (fun ls hl => ?_)
        refine lv_aload_nN hx hb dX0_wordAt_22 rfl (lv_at hl 0 rfl) ?_
        refine lv_ifnonnullN hx hb dX0_wordAt_23 ?_
        refine lv_iconst (v := 0) hx hb dX0_wordAt_26 (by decide) ?_
        refine lv_goto (tgt := 36) hx hb dX0_wordAt_27 (by decide) ?_
        exact W.iret (v := 0) hx hb hr (fun t ht hW => ⟨0, rfl, m_get_none c_1 (Int32.not_le.mpr c_2) hg_3, ht⟩) (fun q h => by cases h) dX0_wordAt_36
      | some y_4 =>
        have hy_5 : y_4 ∈ LP := hm.1 _ _ (pg_cl c_1 (Int32.not_le.mpr c_2)).2 hg_3
        refine W.eq (g2 := F0 m 21 ls [.ref y_4]) rfl ?_
        refine lv_astore_n (lv' := [(2, .ref y_4), (0, .ref me), (1, .int pl)]) hx hb dX0_wordAt_21 rfl hl (by decide) rfl (fun ls hl => ?_)
        refine lv_aload_n hx hb dX0_wordAt_22 rfl (lv_at hl 0 rfl) ?_
        refine lv_ifnonnull (tgt := 30) hx hb dX0_wordAt_23 (by decide) ?_
        refine lv_aload_n hx hb dX0_wordAt_30 rfl (lv_at hl 0 rfl) ?_
        refine lv_iload_n hx hb dX0_wordAt_31 rfl (lv_at hl 2 rfl) ?_
        refine vp_callSi (va_Run.run (va_runS (As := [.int pl]) (rest := [.ref y_4]) ⟨hx, hb, hml, hown, hts⟩ (c_X0_indexInPage l pl) (va_cwS 1 hts gX0_wordAt_X0_indexInPage rfl rfl rfl (by decide +kernel) ⟨Nat.le_of_ble_eq_true rfl, Nat.le_of_ble_eq_true rfl⟩) ⟨fun a U g mk q => q, fun U hU hW => ⟨rfl, trivial⟩⟩ rfl rfl hl.1 rfl (lv_room (Nat.le_of_ble_eq_true rfl)) dX0_wordAt_32 ⟨Nat.le_of_ble_eq_true rfl, Nat.le_of_ble_eq_true rfl⟩)) (fun r_6 hw_7 => ?_)
        subst hw_7
        obtain ⟨kk, hkk⟩ := va_pl_get (X := [(me, .inr (0, [.ref pg])), (pg, .inl (cP, 64, .inr (.inr (.inr (.inr g)))))]) (f := prow cI r) hy_5
        refine va_iald (n := 256) (f := r y_4) (cA := cI) hx hb hK hP kk 1 hkk rfl (of_in c_1 (Int32.not_le.mpr c_2)) dX0_wordAt_35 ?_
        exact W.iret (v := r y_4 (s_X0_indexInPage pl).toNatClampNeg) hx hb hr (fun t ht hW => ⟨r y_4 (s_X0_indexInPage pl).toNatClampNeg, rfl, m_get_some c_1 (Int32.not_le.mpr c_2) hg_3, ht⟩) (fun q h => by cases h) dX0_wordAt_36
    · skip
      refine lv_iconst (v := 0) hx hb dX0_wordAt_10 (by decide) ?_
      exact W.iret (v := 0) hx hb hr (fun t ht hW => ⟨0, rfl, by simp only [m_get, if_neg c_1, if_pos (Int32.not_lt.mp c_2)], ht⟩) (fun q h => by cases h) dX0_wordAt_11
set_option maxRecDepth 100000 in
theorem mbX0_putWord_0 : (.constant RX0 17 (65536) : Cond) ∈ wsX0_putWord := by decide +kernel
set_option maxRecDepth 100000 in
theorem miX0_putWord_X0 : ∀ w ∈ u_ws RX0 TX0 1, w ∈ wsX0_putWord := by decide +kernel
set_option maxRecDepth 100000 in
theorem mbX0_putWord_2 : (.fieldLink RX0 11 "SoftMaps$Memory" "pages" "[[I" : Cond) ∈ wsX0_putWord := by decide +kernel
set_option maxRecDepth 100000 in
theorem mbX0_putWord_3 : (.arrayClass .int : Cond) ∈ wsX0_putWord := by decide +kernel
set_option maxHeartbeats 4000000 in
set_option maxRecDepth 100000 in
theorem c_X0_putWord (l : Launch) (dC : Nat → ClassId) (dI : Nat → Nat → Nat) (sz : Nat) (me pg : Nat) (cP cI : ClassId) (g : Nat → Option Nat) (LP : List Nat) (r : Nat → Nat → Int32) (pl w : Int32) (hm : mok g LP) : Met l yX0_putWord wsX0_putWord ({ frames := 1, cells := 1, slots := 256, locals := 20 }) (va_Pc [.ref me, .int pl, .int w] (fun U => U.heap.size = sz ∧ va_P (dC, dI) vwCl ([(me, .inr (0, [.ref pg])), (pg, .inl (cP, 64, .inr (.inr (.inr (.inr g)))))] ++ va_pl LP (prow cI r)) U.heap ∧ va_K (dC, dI) vwCl [(cP, .array .int), (cI, .int)] U ∧ va_D (fun _ => True) ([(me, .inr (0, [.ref pg])), (pg, .inl (cP, 64, .inr (.inr (.inr (.inr g)))))] ++ va_pl LP (prow cI r)) ∧ ag_O .int U)) (va_Qv (fun u : (Nat → Option Nat) × List Nat × (Nat → Nat → Int32) => mok u.1 u.2.1 ∧ ∀ k, k < 16384 → mw u.1 u.2.2 k = m_put (mw g r) pl w k) (fun (u : (Nat → Option Nat) × List Nat × (Nat → Nat → Int32)) (t : State) => va_P (dC, dI) vwCl ([(me, .inr (0, [.ref pg])), (pg, .inl (cP, 64, .inr (.inr (.inr (.inr u.1)))))] ++ va_pl u.2.1 (prow cI u.2.2)) t.heap ∧ va_K (dC, dI) vwCl [(cP, .array .int), (cI, .int)] t ∧ va_D (va_A ([(me, .inr (0, [.ref pg])), (pg, .inl (cP, 64, .inr (.inr (.inr (.inr g)))))] ++ va_pl LP (prow cI r)) sz) ([(me, .inr (0, [.ref pg])), (pg, .inl (cP, 64, .inr (.inr (.inr (.inr u.1)))))] ++ va_pl u.2.1 (prow cI u.2.2))) (va_A ([(me, .inr (0, [.ref pg])), (pg, .inl (cP, 64, .inr (.inr (.inr (.inr g)))))] ++ va_pl LP (prow cI r)) sz)) 1 256 (va_A ([(me, .inr (0, [.ref pg])), (pg, .inl (cP, 64, .inr (.inr (.inr (.inr g)))))] ++ va_pl LP (prow cI r)) sz) := by
  refine Met.ofW (cc := cX0_putWord) (maxL := 4) (ret := none) (by decide) rfl ?_
  intro p e s m args below meth c s₁ B hml hv
  obtain ⟨rfl, hsz, hP, hK, hD0, hZ⟩ := hv
  have hx := B.exec
  have hb := B.bytes
  have hr := B.returns
  have hts := atoms_spec (ws := wsX0_putWord) B.pre
  have hown : s.vm.findClass RX0 = some m.cls := findClass_of_methodNamed B.named
  have hlocks := B.notSynchronized
  subst hsz
  have hD := hD0.self (sz := s.heap.size)
  generalize hAe : va_A ([(me, .inr (0, [.ref pg])), (pg, .inl (cP, 64, .inr (.inr (.inr (.inr g)))))] ++ va_pl LP (prow cI r)) s.heap.size = A at hD ⊢
  have hA : ∀ q : Nat, s.heap.size ≤ q → A q := fun q h => by rw [← hAe]; exact Or.inr h
  have hS : va_S A s.heap s.heap [] := va_S.rf
  have hP : va_P (dC, dI) vwCl ([(me, .inr (0, [.ref pg])), (pg, .inl (cP, 64, .inr (.inr (.inr (.inr g)))))] ++ va_pl LP (prow cI r)) s.heap := hP
  have hl := lv_entry ([.ref me, .int pl, .int w]) (n := 4) (Nat.le_of_ble_eq_true rfl)
  rw [lg_entry_eq]
  generalize (lg_sl ([.ref me, .int pl, .int w]) ++ List.replicate (4 - (lg_sl ([.ref me, .int pl, .int w])).length) Slot.unset).toArray = ls at hl ⊢
  have hl : lv_has ls 4 [(0, .ref me), (1, .int pl), (2, .int w)] := hl
  refine lv_iload_n hx hb dX0_putWord_0 rfl (lv_at hl 1 rfl) ?_
  refine lv_if_lt (tgt := 10) hx hb dX0_putWord_1 (by decide) (fun c_1 => ?_) (fun c_1 => ?_)
  · skip
    refine W.widen (k := 1) (n := 256) (by omega) (by omega) ?_
    have hPe := hP
    exact W.vret hx hb hr (fun t ht hW => ⟨⟨(g, LP, r), rfl, ⟨hm, fun k hk => by simp only [m_put, if_pos c_1]⟩, by rw [ht]; exact hP, va_K.moved hW.alike hK, hD⟩, hS.F ht⟩) hS.2.2 dX0_putWord_10
  · skip
    refine lv_iload_n hx hb dX0_putWord_4 rfl (lv_at hl 1 rfl) ?_
    refine lv_ldc (v := 65536) hx hb hown (hts _ mbX0_putWord_0) dX0_putWord_5 ?_
    refine lv_icmp_lt (tgt := 11) hx hb dX0_putWord_7 (by decide) (fun c_2 => ?_) (fun c_2 => ?_)
    · skip
      refine lv_aload_n hx hb dX0_putWord_11 rfl (lv_at hl 0 rfl) ?_
      refine va_get (D := (dC, dI)) (ci := 0) (v := .ref pg) (C := RX0) (T := TX0) (N := 1) hx hb hts miX0_putWord_X0 hown hK hP 0 rfl rfl 0 (by decide) (hts _ mbX0_putWord_2) (fun _ h9 => h9) rfl dX0_putWord_12 ?_
      refine lv_iload_n hx hb dX0_putWord_15 rfl (lv_at hl 1 rfl) ?_
      refine lv_bipush (v := 10) hx hb dX0_putWord_16 (by decide) ?_
      refine lv_iushr (v := ush pl 10) hx hb dX0_putWord_18 rfl ?_
      refine ag_ld hx hb hK hP 1 0 rfl rfl (pg_in c_1 (Int32.not_le.mpr c_2)) dX0_putWord_19 ?_
      cases hg_3 : g (ush pl 10).toNatClampNeg with
      | none =>
        refine W.eq (g2 := F0 m 20 ls [.null]) rfl ?_
        refine lv_astore_nN (lv' := [(3, .null), (0, .ref me), (1, .int pl), (2, .int w)]) hx hb dX0_putWord_20 rfl hl (by decide) rfl (fun ls hl => ?_)
        refine lv_aload_nN hx hb dX0_putWord_21 rfl (lv_at hl 0 rfl) ?_
        refine lv_ifnonnullN hx hb dX0_putWord_22 ?_
        refine lv_sipush (v := 256) hx hb dX0_putWord_25 (by decide) ?_
        refine va_newa (atype := .int) (N' := 256) (a0 := (256, .inl (fun _ => 0))) (ty := .int) (n := 256) hx hb (hts _ mbX0_putWord_3) rfl hK hP hD hS hA (fun _ => rfl) (by decide) (by decide +kernel) (by decide) (Nat.le_of_ble_eq_true rfl) (Nat.le_of_ble_eq_true rfl) dX0_putWord_28 (fun q_6 cA_7 H hK hP hD hS => ?_)
        have hcA : cA_7 = cI := cls_eq hK (i := 2) (j := 1) rfl rfl
        rw [hcA] at hP hD
        have hq_8 : q_6 ∉ LP := va_pl_fresh2 hD
        rw [List.append_assoc, va_pl_push hq_8, prow_up] at hP hD
        have hP : va_P (dC, dI) vwCl ([(me, .inr (0, [.ref pg])), (pg, .inl (cP, 64, .inr (.inr (.inr (.inr g)))))] ++ va_pl (LP ++ [q_6]) (prow cI (va_up r q_6 (fun _ => 0)))) H := hP
        have hD : va_D A ([(me, .inr (0, [.ref pg])), (pg, .inl (cP, 64, .inr (.inr (.inr (.inr g)))))] ++ va_pl (LP ++ [q_6]) (prow cI (va_up r q_6 (fun _ => 0)))) := hD
        have hK := hK.sub (tys' := [(cP, .array .int), (cI, .int)]) [0, 1] rfl
        have hy_9 : q_6 ∈ LP ++ [q_6] := l_in_new LP q_6
        refine W.widen (k := 1) (n := 256) (by omega) (by omega) ?_
        refine lv_astore_n (lv' := [(3, .ref q_6), (0, .ref me), (1, .int pl), (2, .int w)]) hx hb dX0_putWord_30 rfl hl (by decide) rfl (fun ls hl => ?_)
        refine lv_aload_n hx hb dX0_putWord_31 rfl (lv_at hl 1 rfl) ?_
        refine va_get (D := (dC, dI)) (ci := 0) (v := .ref pg) (C := RX0) (T := TX0) (N := 1) hx hb hts miX0_putWord_X0 hown hK hP 0 rfl rfl 0 (by decide) (hts _ mbX0_putWord_2) (fun _ h9 => h9) rfl dX0_putWord_32 ?_
        refine lv_iload_n hx hb dX0_putWord_35 rfl (lv_at hl 2 rfl) ?_
        refine lv_bipush (v := 10) hx hb dX0_putWord_36 (by decide) ?_
        refine lv_iushr (v := ush pl 10) hx hb dX0_putWord_38 rfl ?_
        refine lv_aload_n hx hb dX0_putWord_39 rfl (lv_at hl 0 rfl) ?_
        obtain ⟨kk, hkk⟩ := va_pl_get (X := [(me, .inr (0, [.ref pg])), (pg, .inl (cP, 64, .inr (.inr (.inr (.inr g)))))]) (f := prow cI (va_up r q_6 (fun _ => 0))) hy_9
        refine ag_st (t := .int) (cR := cI) hx hb hK hP hD hS 1 0 rfl rfl hZ (hK.2 1 _ rfl).2 ⟨_, hP kk _ hkk, rfl, rfl⟩ (pg_in c_1 (Int32.not_le.mpr c_2)) dX0_putWord_40 (fun H locs hP hD hS => ?_)
        have hP : va_P (dC, dI) vwCl ([(me, .inr (0, [.ref pg])), (pg, .inl (cP, 64, .inr (.inr (.inr (.inr (va_up g (ush pl 10).toNatClampNeg (some q_6)))))))] ++ va_pl (LP ++ [q_6]) (prow cI (va_up r q_6 (fun _ => 0)))) H := hP
        have hD : va_D A ([(me, .inr (0, [.ref pg])), (pg, .inl (cP, 64, .inr (.inr (.inr (.inr (va_up g (ush pl 10).toNatClampNeg (some q_6)))))))] ++ va_pl (LP ++ [q_6]) (prow cI (va_up r q_6 (fun _ => 0)))) := hD
        refine lv_aload_n hx hb dX0_putWord_41 rfl (lv_at hl 0 rfl) ?_
        refine lv_iload_n hx hb dX0_putWord_42 rfl (lv_at hl 2 rfl) ?_
        refine vp_callSi (va_Run.run (va_runS (As := [.int pl]) (rest := [.ref q_6]) ⟨hx, hb, hml, hown, hts⟩ (c_X0_indexInPage l pl) (va_cwS 1 hts gX0_putWord_X0_indexInPage rfl rfl rfl (by decide +kernel) ⟨Nat.le_of_ble_eq_true rfl, Nat.le_of_ble_eq_true rfl⟩) ⟨fun a U g mk q => q, fun U hU hW => ⟨rfl, trivial⟩⟩ rfl rfl hl.1 rfl (lv_room (Nat.le_of_ble_eq_true rfl)) dX0_putWord_43 ⟨Nat.le_of_ble_eq_true rfl, Nat.le_of_ble_eq_true rfl⟩)) (fun r_10 hw_11 => ?_)
        subst hw_11
        refine lv_iload_n hx hb dX0_putWord_46 rfl (lv_at hl 3 rfl) ?_
        obtain ⟨kk, hkk⟩ := va_pl_get (X := [(me, .inr (0, [.ref pg])), (pg, .inl (cP, 64, .inr (.inr (.inr (.inr (va_up g (ush pl 10).toNatClampNeg (some q_6)))))))]) (f := prow cI (va_up r q_6 (fun _ => 0))) hy_9
        have hDo := hD
        refine va_iast (n := 256) (f := (va_up r q_6 (fun _ => 0)) q_6) (cA := cI) hx hb hK hP hD hS kk 1 hkk rfl (of_in c_1 (Int32.not_le.mpr c_2)) dX0_putWord_47 (fun H locs hP hD hS => ?_)
        rw [va_pl_set hDo hy_9 hkk, prow_up] at hP hD
        rw [va_up_self, bx_uu] at hP hD
        have hP : va_P (dC, dI) vwCl ([(me, .inr (0, [.ref pg])), (pg, .inl (cP, 64, .inr (.inr (.inr (.inr (va_up g (ush pl 10).toNatClampNeg (some q_6)))))))] ++ va_pl (LP ++ [q_6]) (prow cI (va_up r q_6 (upd (fun _ => 0) (s_X0_indexInPage pl).toNatClampNeg w)))) H := hP
        have hD : va_D A ([(me, .inr (0, [.ref pg])), (pg, .inl (cP, 64, .inr (.inr (.inr (.inr (va_up g (ush pl 10).toNatClampNeg (some q_6)))))))] ++ va_pl (LP ++ [q_6]) (prow cI (va_up r q_6 (upd (fun _ => 0) (s_X0_indexInPage pl).toNatClampNeg w)))) := hD
        have hPe := hP
        exact W.vret hx hb hr (fun t ht hW => ⟨⟨(va_up g (ush pl 10).toNatClampNeg (some q_6), LP ++ [q_6], va_up r q_6 (upd (fun _ => 0) (s_X0_indexInPage pl).toNatClampNeg w)), rfl, ⟨mok_new hm hq_8, fun k hk => m_put_none hm hq_8 c_1 (Int32.not_le.mpr c_2) hg_3 k hk⟩, by rw [ht]; exact hP, va_K.moved hW.alike hK, hD⟩, hS.F ht⟩) hS.2.2 dX0_putWord_48
      | some y_4 =>
        have hy_5 : y_4 ∈ LP := hm.1 _ _ (pg_cl c_1 (Int32.not_le.mpr c_2)).2 hg_3
        refine W.eq (g2 := F0 m 20 ls [.ref y_4]) rfl ?_
        refine lv_astore_n (lv' := [(3, .ref y_4), (0, .ref me), (1, .int pl), (2, .int w)]) hx hb dX0_putWord_20 rfl hl (by decide) rfl (fun ls hl => ?_)
        refine lv_aload_n hx hb dX0_putWord_21 rfl (lv_at hl 0 rfl) ?_
        refine lv_ifnonnull (tgt := 41) hx hb dX0_putWord_22 (by decide) ?_
        refine lv_aload_n hx hb dX0_putWord_41 rfl (lv_at hl 0 rfl) ?_
        refine lv_iload_n hx hb dX0_putWord_42 rfl (lv_at hl 2 rfl) ?_
        refine vp_callSi (va_Run.run (va_runS (As := [.int pl]) (rest := [.ref y_4]) ⟨hx, hb, hml, hown, hts⟩ (c_X0_indexInPage l pl) (va_cwS 1 hts gX0_putWord_X0_indexInPage rfl rfl rfl (by decide +kernel) ⟨Nat.le_of_ble_eq_true rfl, Nat.le_of_ble_eq_true rfl⟩) ⟨fun a U g mk q => q, fun U hU hW => ⟨rfl, trivial⟩⟩ rfl rfl hl.1 rfl (lv_room (Nat.le_of_ble_eq_true rfl)) dX0_putWord_43 ⟨Nat.le_of_ble_eq_true rfl, Nat.le_of_ble_eq_true rfl⟩)) (fun r_12 hw_13 => ?_)
        subst hw_13
        refine lv_iload_n hx hb dX0_putWord_46 rfl (lv_at hl 3 rfl) ?_
        obtain ⟨kk, hkk⟩ := va_pl_get (X := [(me, .inr (0, [.ref pg])), (pg, .inl (cP, 64, .inr (.inr (.inr (.inr g)))))]) (f := prow cI r) hy_5
        have hDo := hD
        refine va_iast (n := 256) (f := r y_4) (cA := cI) hx hb hK hP hD hS kk 1 hkk rfl (of_in c_1 (Int32.not_le.mpr c_2)) dX0_putWord_47 (fun H locs hP hD hS => ?_)
        rw [va_pl_set hDo hy_5 hkk, prow_up] at hP hD
        have hP : va_P (dC, dI) vwCl ([(me, .inr (0, [.ref pg])), (pg, .inl (cP, 64, .inr (.inr (.inr (.inr g)))))] ++ va_pl (LP) (prow cI (va_up r y_4 (upd (r y_4) (s_X0_indexInPage pl).toNatClampNeg w)))) H := hP
        have hD : va_D A ([(me, .inr (0, [.ref pg])), (pg, .inl (cP, 64, .inr (.inr (.inr (.inr g)))))] ++ va_pl (LP) (prow cI (va_up r y_4 (upd (r y_4) (s_X0_indexInPage pl).toNatClampNeg w)))) := hD
        refine W.widen (k := 1) (n := 256) (by omega) (by omega) ?_
        have hPe := hP
        exact W.vret hx hb hr (fun t ht hW => ⟨⟨(g, LP, va_up r y_4 (upd (r y_4) (s_X0_indexInPage pl).toNatClampNeg w)), rfl, ⟨hm, fun k hk => m_put_some hm c_1 (Int32.not_le.mpr c_2) hg_3 k hk⟩, by rw [ht]; exact hP, va_K.moved hW.alike hK, hD⟩, hS.F ht⟩) hS.2.2 dX0_putWord_48
    · skip
      refine W.widen (k := 1) (n := 256) (by omega) (by omega) ?_
      have hPe := hP
      exact W.vret hx hb hr (fun t ht hW => ⟨⟨(g, LP, r), rfl, ⟨hm, fun k hk => by simp only [m_put, if_neg c_1, if_pos (Int32.not_lt.mp c_2)]⟩, by rw [ht]; exact hP, va_K.moved hW.alike hK, hD⟩, hS.F ht⟩) hS.2.2 dX0_putWord_10
def s_X0_byteAt (M : Nat → Int32) (pl : Int32) : Int32 :=
  (ush (m_get M pl) (s_X0_byteShift pl)) &&& 255
set_option maxHeartbeats 4000000 in
set_option maxRecDepth 100000 in
theorem c_X0_byteAt (l : Launch) (dC : Nat → ClassId) (dI : Nat → Nat → Nat) (me pg : Nat) (cP cI : ClassId) (g : Nat → Option Nat) (LP : List Nat) (r : Nat → Nat → Int32) (pl : Int32) (hm : mok g LP) : Met l yX0_byteAt wsX0_byteAt ({ frames := 2, cells := 0, slots := 0, locals := 42 }) (va_Pc [.ref me, .int pl] (fun U => va_P (dC, dI) vwCl ([(me, .inr (0, [.ref pg])), (pg, .inl (cP, 64, .inr (.inr (.inr (.inr g)))))] ++ va_pl LP (prow cI r)) U.heap ∧ va_K (dC, dI) vwCl [(cP, .array .int), (cI, .int)] U)) (vp_Si (fun x_ => x_ = s_X0_byteAt (mw g r) pl)) 0 0 (fun _ => False) := by
  refine Met.ofW (cc := cX0_byteAt) (maxL := 2) (ret := (some .int)) (by decide) rfl ?_
  intro p e s m args below meth c s₁ B hml hv
  obtain ⟨rfl, hP, hK⟩ := hv
  have hx := B.exec
  have hb := B.bytes
  have hr := B.returns
  have hts := atoms_spec (ws := wsX0_byteAt) B.pre
  have hown : s.vm.findClass RX0 = some m.cls := findClass_of_methodNamed B.named
  have hlocks := B.notSynchronized
  have hl := lv_entry ([.ref me, .int pl]) (n := 2) (Nat.le_of_ble_eq_true rfl)
  rw [lg_entry_eq]
  generalize (lg_sl ([.ref me, .int pl]) ++ List.replicate (2 - (lg_sl ([.ref me, .int pl])).length) Slot.unset).toArray = ls at hl ⊢
  have hl : lv_has ls 2 [(0, .ref me), (1, .int pl)] := hl
  have hP : va_P (dC, dI) vwCl ([(me, .inr (0, [.ref pg])), (pg, .inl (cP, 64, .inr (.inr (.inr (.inr g)))))] ++ va_pl LP (prow cI r)) s.heap := hP
  refine lv_aload_n hx hb dX0_byteAt_0 rfl (lv_at hl 0 rfl) ?_
  refine lv_iload_n hx hb dX0_byteAt_1 rfl (lv_at hl 1 rfl) ?_
  have hPc := va_P.part (X := [(me, .inr (0, [.ref pg])), (pg, .inl (cP, 64, .inr (.inr (.inr (.inr g)))))]) (cx := [(me, .inr (0, [.ref pg])), (pg, .inl (cP, 64, .inr (.inr (.inr (.inr g)))))]) hP [0, 1] rfl
  have hKc := hK.sub (tys' := [(cP, .array .int), (cI, .int)]) [0, 1] rfl
  refine vp_callSi (va_Run.run (va_runV (As := [.int pl]) (rest := []) ⟨hx, hb, hml, hown, hts⟩ (c_X0_wordAt l dC dI me pg cP cI g LP r pl hm) (cwV 1 hts gX0_byteAt_X0_wordAt rfl rfl rfl (by decide +kernel) ⟨Nat.le_of_ble_eq_true rfl, Nat.le_of_ble_eq_true rfl⟩) ⟨fun a U g mk q => by obtain ⟨q0, qP, qK⟩ := q; exact ⟨q0, qP, va_K.moved (u := U) (U := U.calling g mk a) (Vm.Alike.refl U.vm) qK⟩, va_recv hKc hPc (ci := 0) (q0 := 0) rfl rfl, fun U hU hW => ⟨rfl, by rw [hU]; exact hPc, va_K.moved hW.alike hKc⟩⟩ rfl rfl hl.1 rfl (lv_room (Nat.le_of_ble_eq_true rfl)) dX0_byteAt_2 ⟨Nat.le_of_ble_eq_true rfl, Nat.le_of_ble_eq_true rfl⟩)) (fun r_1 hw_2 => ?_)
  subst hw_2
  refine lv_iload_n hx hb dX0_byteAt_5 rfl (lv_at hl 1 rfl) ?_
  refine vp_callSi (va_Run.run (va_runS (As := [.int pl]) (rest := [.int (m_get (mw g r) pl)]) ⟨hx, hb, hml, hown, hts⟩ (c_X0_byteShift l pl) (va_cwS 1 hts gX0_byteAt_X0_byteShift rfl rfl rfl (by decide +kernel) ⟨Nat.le_of_ble_eq_true rfl, Nat.le_of_ble_eq_true rfl⟩) ⟨fun a U g mk q => q, fun U hU hW => ⟨rfl, trivial⟩⟩ rfl rfl hl.1 rfl (lv_room (Nat.le_of_ble_eq_true rfl)) dX0_byteAt_6 ⟨Nat.le_of_ble_eq_true rfl, Nat.le_of_ble_eq_true rfl⟩)) (fun r_3 hw_4 => ?_)
  subst hw_4
  refine lv_iushr (v := ush (m_get (mw g r) pl) (s_X0_byteShift pl)) hx hb dX0_byteAt_9 rfl ?_
  refine lv_sipush (v := 255) hx hb dX0_byteAt_10 (by decide) ?_
  refine lv_iand hx hb dX0_byteAt_13 ?_
  exact W.iret (v := (ush (m_get (mw g r) pl) (s_X0_byteShift pl)) &&& 255) hx hb hr (fun t ht hW => ⟨(ush (m_get (mw g r) pl) (s_X0_byteShift pl)) &&& 255, rfl, by first | rfl | (unfold s_X0_byteAt; rfl), ht⟩) (fun q h => by cases h) dX0_byteAt_14
def s_X0_putByte (M : Nat → Int32) (pl w : Int32) : Nat → Int32 :=
  m_put M pl (((m_get M pl) &&& ((255 <<< ((s_X0_byteShift pl : Int32) &&& 31)) ^^^ (-1))) ||| ((w &&& 255) <<< ((s_X0_byteShift pl : Int32) &&& 31)))
set_option maxHeartbeats 4000000 in
set_option maxRecDepth 100000 in
theorem c_X0_putByte (l : Launch) (dC : Nat → ClassId) (dI : Nat → Nat → Nat) (sz : Nat) (me pg : Nat) (cP cI : ClassId) (g : Nat → Option Nat) (LP : List Nat) (r : Nat → Nat → Int32) (pl w : Int32) (hm : mok g LP) : Met l yX0_putByte wsX0_putByte ({ frames := 2, cells := 1, slots := 256, locals := 43 }) (va_Pc [.ref me, .int pl, .int w] (fun U => U.heap.size = sz ∧ va_P (dC, dI) vwCl ([(me, .inr (0, [.ref pg])), (pg, .inl (cP, 64, .inr (.inr (.inr (.inr g)))))] ++ va_pl LP (prow cI r)) U.heap ∧ va_K (dC, dI) vwCl [(cP, .array .int), (cI, .int)] U ∧ va_D (fun _ => True) ([(me, .inr (0, [.ref pg])), (pg, .inl (cP, 64, .inr (.inr (.inr (.inr g)))))] ++ va_pl LP (prow cI r)) ∧ ag_O .int U)) (va_Qv (fun u : (Nat → Option Nat) × List Nat × (Nat → Nat → Int32) => mok u.1 u.2.1 ∧ ∀ k, k < 16384 → mw u.1 u.2.2 k = s_X0_putByte (mw g r) pl w k) (fun (u : (Nat → Option Nat) × List Nat × (Nat → Nat → Int32)) (t : State) => va_P (dC, dI) vwCl ([(me, .inr (0, [.ref pg])), (pg, .inl (cP, 64, .inr (.inr (.inr (.inr u.1)))))] ++ va_pl u.2.1 (prow cI u.2.2)) t.heap ∧ va_K (dC, dI) vwCl [(cP, .array .int), (cI, .int)] t ∧ va_D (va_A ([(me, .inr (0, [.ref pg])), (pg, .inl (cP, 64, .inr (.inr (.inr (.inr g)))))] ++ va_pl LP (prow cI r)) sz) ([(me, .inr (0, [.ref pg])), (pg, .inl (cP, 64, .inr (.inr (.inr (.inr u.1)))))] ++ va_pl u.2.1 (prow cI u.2.2))) (va_A ([(me, .inr (0, [.ref pg])), (pg, .inl (cP, 64, .inr (.inr (.inr (.inr g)))))] ++ va_pl LP (prow cI r)) sz)) 1 256 (va_A ([(me, .inr (0, [.ref pg])), (pg, .inl (cP, 64, .inr (.inr (.inr (.inr g)))))] ++ va_pl LP (prow cI r)) sz) := by
  refine Met.ofW (cc := cX0_putByte) (maxL := 5) (ret := none) (by decide) rfl ?_
  intro p e s m args below meth c s₁ B hml hv
  obtain ⟨rfl, hsz, hP, hK, hD0, hZ⟩ := hv
  have hx := B.exec
  have hb := B.bytes
  have hr := B.returns
  have hts := atoms_spec (ws := wsX0_putByte) B.pre
  have hown : s.vm.findClass RX0 = some m.cls := findClass_of_methodNamed B.named
  have hlocks := B.notSynchronized
  subst hsz
  have hD := hD0.self (sz := s.heap.size)
  generalize hAe : va_A ([(me, .inr (0, [.ref pg])), (pg, .inl (cP, 64, .inr (.inr (.inr (.inr g)))))] ++ va_pl LP (prow cI r)) s.heap.size = A at hD ⊢
  have hA : ∀ q : Nat, s.heap.size ≤ q → A q := fun q h => by rw [← hAe]; exact Or.inr h
  have hS : va_S A s.heap s.heap [] := va_S.rf
  have hP : va_P (dC, dI) vwCl ([(me, .inr (0, [.ref pg])), (pg, .inl (cP, 64, .inr (.inr (.inr (.inr g)))))] ++ va_pl LP (prow cI r)) s.heap := hP
  have hl := lv_entry ([.ref me, .int pl, .int w]) (n := 5) (Nat.le_of_ble_eq_true rfl)
  rw [lg_entry_eq]
  generalize (lg_sl ([.ref me, .int pl, .int w]) ++ List.replicate (5 - (lg_sl ([.ref me, .int pl, .int w])).length) Slot.unset).toArray = ls at hl ⊢
  have hl : lv_has ls 5 [(0, .ref me), (1, .int pl), (2, .int w)] := hl
  refine lv_iload_n hx hb dX0_putByte_0 rfl (lv_at hl 1 rfl) ?_
  refine vp_callSi (va_Run.run (va_runS (As := [.int pl]) (rest := []) ⟨hx, hb, hml, hown, hts⟩ (c_X0_byteShift l pl) (va_cwS 1 hts gX0_putByte_X0_byteShift rfl rfl rfl (by decide +kernel) ⟨Nat.le_of_ble_eq_true rfl, Nat.le_of_ble_eq_true rfl⟩) ⟨fun a U g mk q => q, fun U hU hW => ⟨rfl, trivial⟩⟩ rfl rfl hl.1 rfl (lv_room (Nat.le_of_ble_eq_true rfl)) dX0_putByte_1 ⟨Nat.le_of_ble_eq_true rfl, Nat.le_of_ble_eq_true rfl⟩)) (fun r_1 hw_2 => ?_)
  subst hw_2
  refine lv_istore_n (lv' := [(3, .int (s_X0_byteShift pl)), (0, .ref me), (1, .int pl), (2, .int w)]) hx hb dX0_putByte_4 rfl hl (by decide) rfl (fun ls hl => ?_)
  refine lv_aload_n hx hb dX0_putByte_5 rfl (lv_at hl 1 rfl) ?_
  refine lv_iload_n hx hb dX0_putByte_6 rfl (lv_at hl 2 rfl) ?_
  have hPc := va_P.part (X := [(me, .inr (0, [.ref pg])), (pg, .inl (cP, 64, .inr (.inr (.inr (.inr g)))))]) (cx := [(me, .inr (0, [.ref pg])), (pg, .inl (cP, 64, .inr (.inr (.inr (.inr g)))))]) hP [0, 1] rfl
  have hKc := hK.sub (tys' := [(cP, .array .int), (cI, .int)]) [0, 1] rfl
  refine vp_callSi (va_Run.run (va_runV (As := [.int pl]) (rest := []) ⟨hx, hb, hml, hown, hts⟩ (c_X0_wordAt l dC dI me pg cP cI g LP r pl hm) (cwV 1 hts gX0_putByte_X0_wordAt rfl rfl rfl (by decide +kernel) ⟨Nat.le_of_ble_eq_true rfl, Nat.le_of_ble_eq_true rfl⟩) ⟨fun a U g mk q => by obtain ⟨q0, qP, qK⟩ := q; exact ⟨q0, qP, va_K.moved (u := U) (U := U.calling g mk a) (Vm.Alike.refl U.vm) qK⟩, va_recv hKc hPc (ci := 0) (q0 := 0) rfl rfl, fun U hU hW => ⟨rfl, by rw [hU]; exact hPc, va_K.moved hW.alike hKc⟩⟩ rfl rfl hl.1 rfl (lv_room (Nat.le_of_ble_eq_true rfl)) dX0_putByte_7 ⟨Nat.le_of_ble_eq_true rfl, Nat.le_of_ble_eq_true rfl⟩)) (fun r_3 hw_4 => ?_)
  subst hw_4
  refine lv_sipush (v := 255) hx hb dX0_putByte_10 (by decide) ?_
  refine lv_iload_n hx hb dX0_putByte_13 rfl (lv_at hl 0 rfl) ?_
  refine lv_ishl hx hb dX0_putByte_14 ?_
  refine lv_iconst (v := (-1)) hx hb dX0_putByte_15 (by decide) ?_
  refine lv_ixor hx hb dX0_putByte_16 ?_
  refine lv_iand hx hb dX0_putByte_17 ?_
  refine lv_istore (lv' := [(4, .int ((m_get (mw g r) pl) &&& ((255 <<< ((s_X0_byteShift pl : Int32) &&& 31)) ^^^ (-1)))), (3, .int (s_X0_byteShift pl)), (0, .ref me), (1, .int pl), (2, .int w)]) hx hb dX0_putByte_18 hl (by decide) rfl (fun ls hl => ?_)
  refine lv_aload_n hx hb dX0_putByte_20 rfl (lv_at hl 2 rfl) ?_
  refine lv_iload_n hx hb dX0_putByte_21 rfl (lv_at hl 3 rfl) ?_
  refine lv_iload hx hb dX0_putByte_22 (lv_at hl 0 rfl) ?_
  refine lv_iload_n hx hb dX0_putByte_24 rfl (lv_at hl 4 rfl) ?_
  refine lv_sipush (v := 255) hx hb dX0_putByte_25 (by decide) ?_
  refine lv_iand hx hb dX0_putByte_28 ?_
  refine lv_iload_n hx hb dX0_putByte_29 rfl (lv_at hl 1 rfl) ?_
  refine lv_ishl hx hb dX0_putByte_30 ?_
  refine lv_ior hx hb dX0_putByte_31 ?_
  have hPc := va_P.part (X := [(me, .inr (0, [.ref pg])), (pg, .inl (cP, 64, .inr (.inr (.inr (.inr g)))))]) (cx := [(me, .inr (0, [.ref pg])), (pg, .inl (cP, 64, .inr (.inr (.inr (.inr g)))))]) hP [0, 1] rfl
  have hDc := va_D.part (X := [(me, .inr (0, [.ref pg])), (pg, .inl (cP, 64, .inr (.inr (.inr (.inr g)))))]) (cx := [(me, .inr (0, [.ref pg])), (pg, .inl (cP, 64, .inr (.inr (.inr (.inr g)))))]) hD [0, 1] (by decide) rfl
  have hFc := va_freeP (X := [(me, .inr (0, [.ref pg])), (pg, .inl (cP, 64, .inr (.inr (.inr (.inr g)))))]) (cx := [(me, .inr (0, [.ref pg])), (pg, .inl (cP, 64, .inr (.inr (.inr (.inr g)))))]) hD hS hA [0, 1] rfl
  have hKc := hK.sub (tys' := [(cP, .array .int), (cI, .int)]) [0, 1] rfl
  refine va_callv (va_runV (As := [.int pl, .int (((m_get (mw g r) pl) &&& ((255 <<< ((s_X0_byteShift pl : Int32) &&& 31)) ^^^ (-1))) ||| ((w &&& 255) <<< ((s_X0_byteShift pl : Int32) &&& 31)))]) (rest := []) ⟨hx, hb, hml, hown, hts⟩ (c_X0_putWord l dC dI (s.heap.size) me pg cP cI g LP r pl (((m_get (mw g r) pl) &&& ((255 <<< ((s_X0_byteShift pl : Int32) &&& 31)) ^^^ (-1))) ||| ((w &&& 255) <<< ((s_X0_byteShift pl : Int32) &&& 31))) hm) (cwV 2 hts gX0_putByte_X0_putWord rfl rfl rfl (by decide +kernel) ⟨Nat.le_of_ble_eq_true rfl, Nat.le_of_ble_eq_true rfl⟩) ⟨fun a U g mk q => by obtain ⟨q0, q1, qP, qK, qD, q7⟩ := q; exact ⟨q0, q1, qP, va_K.moved (u := U) (U := U.calling g mk a) (Vm.Alike.refl U.vm) qK, qD, ag_O.moved (Vm.Alike.refl U.vm) q7⟩, va_recv hKc hPc (ci := 0) (q0 := 0) rfl rfl, fun U hU hW => ⟨rfl, by rw [hU], by rw [hU]; exact hPc, va_K.moved hW.alike hKc, hDc.weaken (fun _ _ _ _ => trivial), hZ.moved hW.alike⟩⟩ rfl rfl hl.1 rfl (lv_room (Nat.le_of_ble_eq_true rfl)) dX0_putByte_32 ⟨Nat.le_of_ble_eq_true rfl, Nat.le_of_ble_eq_true rfl⟩) hS (fun q _ h => hFc q h) hFc (fun u_7 t H1 locs ht hvm hw_6 hB hz1 hk1 hS => ?_)
  obtain ⟨g_8, LP_9, r_10⟩ := u_7
  obtain ⟨hm_11, hM_12⟩ := hw_6
  dsimp only at hm_11 hM_12
  obtain ⟨hP1, hK1, hD1⟩ := hB
  rw [ht] at hP1
  obtain ⟨hP, hD⟩ := va_joinP (X := [(me, .inr (0, [.ref pg])), (pg, .inl (cP, 64, .inr (.inr (.inr (.inr g)))))]) (cx := [(me, .inr (0, [.ref pg])), (pg, .inl (cP, 64, .inr (.inr (.inr (.inr g)))))]) (wr := []) (rx := [(me, .inr (0, [.ref pg])), (pg, .inl (cP, 64, .inr (.inr (.inr (.inr g_8)))))]) hP hD [0, 1] [] rfl rfl (by decide) (by decide) hk1 hFc hP1 hD1
  generalize H1 = H at hP hS ⊢
  have hP : va_P (dC, dI) vwCl ([(me, .inr (0, [.ref pg])), (pg, .inl (cP, 64, .inr (.inr (.inr (.inr g_8)))))] ++ va_pl LP_9 (prow cI r_10)) H := hP
  have hD : va_D A ([(me, .inr (0, [.ref pg])), (pg, .inl (cP, 64, .inr (.inr (.inr (.inr g_8)))))] ++ va_pl LP_9 (prow cI r_10)) := hD
  refine W.widen (k := 1) (n := 256) (by omega) (by omega) ?_
  exact W.vret hx hb hr (fun t ht hW => ⟨⟨(g_8, LP_9, r_10), rfl, ⟨hm_11, fun k hk => by rw [hM_12 k hk]; rfl⟩, by rw [ht]; exact hP, va_K.moved hW.alike hK, hD⟩, hS.F ht⟩) hS.2.2 dX0_putByte_35
