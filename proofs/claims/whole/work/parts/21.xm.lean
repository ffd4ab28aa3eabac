set_option maxRecDepth 100000 in
theorem miX1_word_X1 : ∀ w ∈ u_ws RX1 TX1 8, w ∈ wsX1_word := by decide +kernel
set_option maxRecDepth 100000 in
theorem mbX1_word_1 : (.fieldLink RX1 12 "SoftMaps" "memory" "LSoftMaps$Memory;" : Cond) ∈ wsX1_word := by decide +kernel
def s_X1_word (M : Nat → Int32) (pl : Int32) : Int32 :=
  if s_X1_isWordPlace pl = 0 then
    0
  else
    m_get M pl
set_option maxHeartbeats 4000000 in
set_option maxRecDepth 100000 in
theorem c_X1_word (l : Launch) (dC : Nat → ClassId) (dI : Nat → Nat → Nat) (h0 me sp : Nat) (cI : ClassId) (f : Nat → Int32) (fa fl fd cr lo so : Int32) (pg : Nat) (cP : ClassId) (g : Nat → Option Nat) (LP : List Nat) (r : Nat → Nat → Int32) (pl : Int32) (hm : mok g LP) : Met l yX1_word wsX1_word ({ frames := 2, cells := 0, slots := 0, locals := 42 }) (va_Pc [.ref h0, .int pl] (fun U => va_P (dC, dI) vwCl ([(h0, .inr (1, [.ref me, .ref sp, .int fa, .int fl, .int fd, .int cr, .int lo, .int so])), (sp, .inl (cI, 33, .inl f)), (me, .inr (0, [.ref pg])), (pg, .inl (cP, 64, .inr (.inr (.inr (.inr g)))))] ++ va_pl LP (prow cI r)) U.heap ∧ va_K (dC, dI) vwCl [(cI, .int), (cP, .array .int)] U)) (vp_Si (fun x_ => x_ = s_X1_word (mw g r) pl)) 0 0 (fun _ => False) := by
  refine Met.ofW (cc := cX1_word) (maxL := 2) (ret := (some .int)) (by decide) rfl ?_
  intro p e s m args below meth c s₁ B hml hv
  obtain ⟨rfl, hP, hK⟩ := hv
  have hx := B.exec
  have hb := B.bytes
  have hr := B.returns
  have hts := atoms_spec (ws := wsX1_word) B.pre
  have hown : s.vm.findClass RX1 = some m.cls := findClass_of_methodNamed B.named
  have hlocks := B.notSynchronized
  have hl := lv_entry ([.ref h0, .int pl]) (n := 2) (Nat.le_of_ble_eq_true rfl)
  rw [lg_entry_eq]
  generalize (lg_sl ([.ref h0, .int pl]) ++ List.replicate (2 - (lg_sl ([.ref h0, .int pl])).length) Slot.unset).toArray = ls at hl ⊢
  have hl : lv_has ls 2 [(0, .ref h0), (1, .int pl)] := hl
  have hP : va_P (dC, dI) vwCl ([(h0, .inr (1, [.ref me, .ref sp, .int fa, .int fl, .int fd, .int cr, .int lo, .int so])), (sp, .inl (cI, 33, .inl f)), (me, .inr (0, [.ref pg])), (pg, .inl (cP, 64, .inr (.inr (.inr (.inr g)))))] ++ va_pl LP (prow cI r)) s.heap := hP
  refine lv_iload_n hx hb dX1_word_0 rfl (lv_at hl 1 rfl) ?_
  refine vp_callSi (va_Run.run (va_runS (As := [.int pl]) (rest := []) ⟨hx, hb, hml, hown, hts⟩ (c_X1_isWordPlace l pl) (va_cwS 1 hts gX1_word_X1_isWordPlace rfl rfl rfl (by decide +kernel) ⟨Nat.le_of_ble_eq_true rfl, Nat.le_of_ble_eq_true rfl⟩) ⟨fun a U g mk q => q, fun U hU hW => ⟨rfl, trivial⟩⟩ rfl rfl hl.1 rfl (lv_room (Nat.le_of_ble_eq_true rfl)) dX1_word_1 ⟨Nat.le_of_ble_eq_true rfl, Nat.le_of_ble_eq_true rfl⟩)) (fun r_1 hw_2 => ?_)
  subst hw_2
  refine lv_if_eq (tgt := 18) hx hb dX1_word_4 (by decide) (fun c_3 => ?_) (fun c_3 => ?_)
  · skip
    refine lv_iconst (v := 0) hx hb dX1_word_18 (by decide) ?_
    exact W.iret (v := 0) hx hb hr (fun t ht hW => ⟨0, rfl, by simp only [s_X1_word, if_pos c_3], ht⟩) (fun q h => by cases h) dX1_word_19
  · skip
    refine lv_aload_n hx hb dX1_word_7 rfl (lv_at hl 0 rfl) ?_
    refine va_get (D := (dC, dI)) (ci := 1) (v := .ref me) (C := RX1) (T := TX1) (N := 8) hx hb hts miX1_word_X1 hown hK hP 0 rfl rfl 0 (by decide) (hts _ mbX1_word_1) (fun _ h9 => h9) rfl dX1_word_8 ?_
    refine lv_iload_n hx hb dX1_word_11 rfl (lv_at hl 1 rfl) ?_
    have hPc := va_P.part (X := [(h0, .inr (1, [.ref me, .ref sp, .int fa, .int fl, .int fd, .int cr, .int lo, .int so])), (sp, .inl (cI, 33, .inl f)), (me, .inr (0, [.ref pg])), (pg, .inl (cP, 64, .inr (.inr (.inr (.inr g)))))]) (cx := [(me, .inr (0, [.ref pg])), (pg, .inl (cP, 64, .inr (.inr (.inr (.inr g)))))]) hP [2, 3] rfl
    have hKc := hK.sub (tys' := [(cP, .array .int), (cI, .int)]) [1, 0] rfl
    refine vp_callSi (va_Run.run (va_runV (As := [.int pl]) (rest := []) ⟨hx, hb, hml, hown, hts⟩ (c_X0_wordAt l dC dI me pg cP cI g LP r pl hm) (cwV 1 hts gX1_word_X0_wordAt rfl rfl rfl (by decide +kernel) ⟨Nat.le_of_ble_eq_true rfl, Nat.le_of_ble_eq_true rfl⟩) ⟨fun a U g mk q => by obtain ⟨q0, qP, qK⟩ := q; exact ⟨q0, qP, va_K.moved (u := U) (U := U.calling g mk a) (Vm.Alike.refl U.vm) qK⟩, va_recv hKc hPc (ci := 0) (q0 := 0) rfl rfl, fun U hU hW => ⟨rfl, by rw [hU]; exact hPc, va_K.moved hW.alike hKc⟩⟩ rfl rfl hl.1 rfl (lv_room (Nat.le_of_ble_eq_true rfl)) dX1_word_12 ⟨Nat.le_of_ble_eq_true rfl, Nat.le_of_ble_eq_true rfl⟩)) (fun r_4 hw_5 => ?_)
    subst hw_5
    refine lv_goto (tgt := 19) hx hb dX1_word_15 (by decide) ?_
    exact W.iret (v := m_get (mw g r) pl) hx hb hr (fun t ht hW => ⟨m_get (mw g r) pl, rfl, by simp only [s_X1_word, if_neg c_3], ht⟩) (fun q h => by cases h) dX1_word_19
set_option maxRecDepth 100000 in
theorem miX1_code_X1 : ∀ w ∈ u_ws RX1 TX1 8, w ∈ wsX1_code := by decide +kernel
set_option maxRecDepth 100000 in
theorem mbX1_code_1 : (.fieldLink RX1 35 "SoftMaps" "codeReads" "I" : Cond) ∈ wsX1_code := by decide +kernel
set_option maxRecDepth 100000 in
theorem mbX1_code_2 : (.fieldLink RX1 12 "SoftMaps" "memory" "LSoftMaps$Memory;" : Cond) ∈ wsX1_code := by decide +kernel
def s_X1_code (f M : Nat → Int32) (fa fl fd cr : Int32) (v : Int32) : Int32 × (Int32 × Int32 × Int32 × Int32) :=
  if 0 ≤ (s_X1_probe f fa fl fd v 0 1).1 then
    (m_get M ((s_X1_probe f fa fl fd v 0 1).1), ((s_X1_probe f fa fl fd v 0 1).2.1, (s_X1_probe f fa fl fd v 0 1).2.2.1, (s_X1_probe f fa fl fd v 0 1).2.2.2, cr + 1))
  else
    (0, ((s_X1_probe f fa fl fd v 0 1).2.1, (s_X1_probe f fa fl fd v 0 1).2.2.1, (s_X1_probe f fa fl fd v 0 1).2.2.2, cr))
set_option maxHeartbeats 4000000 in
set_option maxRecDepth 100000 in
theorem c_X1_code (l : Launch) (dC : Nat → ClassId) (dI : Nat → Nat → Nat) (sz : Nat) (h0 me sp : Nat) (cI : ClassId) (f : Nat → Int32) (fa fl fd cr lo so : Int32) (pg : Nat) (cP : ClassId) (g : Nat → Option Nat) (LP : List Nat) (r : Nat → Nat → Int32) (v : Int32) (hm : mok g LP) : Met l yX1_code wsX1_code ({ frames := 4, cells := 0, slots := 0, locals := 90 }) (va_Pc [.ref h0, .int v] (fun U => U.heap.size = sz ∧ va_P (dC, dI) vwCl ([(h0, .inr (1, [.ref me, .ref sp, .int fa, .int fl, .int fd, .int cr, .int lo, .int so])), (sp, .inl (cI, 33, .inl f)), (me, .inr (0, [.ref pg])), (pg, .inl (cP, 64, .inr (.inr (.inr (.inr g)))))] ++ va_pl LP (prow cI r)) U.heap ∧ va_K (dC, dI) vwCl [(cI, .int), (cP, .array .int)] U ∧ va_D (fun _ => True) ([(h0, .inr (1, [.ref me, .ref sp, .int fa, .int fl, .int fd, .int cr, .int lo, .int so])), (sp, .inl (cI, 33, .inl f)), (me, .inr (0, [.ref pg])), (pg, .inl (cP, 64, .inr (.inr (.inr (.inr g)))))] ++ va_pl LP (prow cI r)))) (va_Qi (fun (a_ : Int32) (u : Int32 × Int32 × Int32 × Int32) => (a_, u) = s_X1_code f (mw g r) fa fl fd cr v) (fun (u : Int32 × Int32 × Int32 × Int32) (t : State) => va_P (dC, dI) vwCl ([(h0, .inr (1, [.ref me, .ref sp, .int u.1, .int u.2.1, .int u.2.2.1, .int u.2.2.2, .int lo, .int so])), (sp, .inl (cI, 33, .inl f)), (me, .inr (0, [.ref pg])), (pg, .inl (cP, 64, .inr (.inr (.inr (.inr g)))))] ++ va_pl LP (prow cI r)) t.heap ∧ va_K (dC, dI) vwCl [(cI, .int), (cP, .array .int)] t ∧ va_D (va_A ([(h0, .inr (1, [.ref me, .ref sp, .int fa, .int fl, .int fd, .int cr, .int lo, .int so])), (sp, .inl (cI, 33, .inl f)), (me, .inr (0, [.ref pg])), (pg, .inl (cP, 64, .inr (.inr (.inr (.inr g)))))] ++ va_pl LP (prow cI r)) sz) ([(h0, .inr (1, [.ref me, .ref sp, .int u.1, .int u.2.1, .int u.2.2.1, .int u.2.2.2, .int lo, .int so])), (sp, .inl (cI, 33, .inl f)), (me, .inr (0, [.ref pg])), (pg, .inl (cP, 64, .inr (.inr (.inr (.inr g)))))] ++ va_pl LP (prow cI r))) (va_A ([(h0, .inr (1, [.ref me, .ref sp, .int fa, .int fl, .int fd, .int cr, .int lo, .int so])), (sp, .inl (cI, 33, .inl f)), (me, .inr (0, [.ref pg])), (pg, .inl (cP, 64, .inr (.inr (.inr (.inr g)))))] ++ va_pl LP (prow cI r)) sz)) 0 0 (va_A ([(h0, .inr (1, [.ref me, .ref sp, .int fa, .int fl, .int fd, .int cr, .int lo, .int so])), (sp, .inl (cI, 33, .inl f)), (me, .inr (0, [.ref pg])), (pg, .inl (cP, 64, .inr (.inr (.inr (.inr g)))))] ++ va_pl LP (prow cI r)) sz) := by
  refine Met.ofW (cc := cX1_code) (maxL := 3) (ret := (some .int)) (by decide) rfl ?_
  intro p e s m args below meth c s₁ B hml hv
  obtain ⟨rfl, hsz, hP, hK, hD0⟩ := hv
  have hx := B.exec
  have hb := B.bytes
  have hr := B.returns
  have hts := atoms_spec (ws := wsX1_code) B.pre
  have hown : s.vm.findClass RX1 = some m.cls := findClass_of_methodNamed B.named
  have hlocks := B.notSynchronized
  subst hsz
  have hD := hD0.self (sz := s.heap.size)
  generalize hAe : va_A ([(h0, .inr (1, [.ref me, .ref sp, .int fa, .int fl, .int fd, .int cr, .int lo, .int so])), (sp, .inl (cI, 33, .inl f)), (me, .inr (0, [.ref pg])), (pg, .inl (cP, 64, .inr (.inr (.inr (.inr g)))))] ++ va_pl LP (prow cI r)) s.heap.size = A at hD ⊢
  have hA : ∀ q : Nat, s.heap.size ≤ q → A q := fun q h => by rw [← hAe]; exact Or.inr h
  have hS : va_S A s.heap s.heap [] := va_S.rf
  have hP : va_P (dC, dI) vwCl ([(h0, .inr (1, [.ref me, .ref sp, .int fa, .int fl, .int fd, .int cr, .int lo, .int so])), (sp, .inl (cI, 33, .inl f)), (me, .inr (0, [.ref pg])), (pg, .inl (cP, 64, .inr (.inr (.inr (.inr g)))))] ++ va_pl LP (prow cI r)) s.heap := hP
  have hl := lv_entry ([.ref h0, .int v]) (n := 3) (Nat.le_of_ble_eq_true rfl)
  rw [lg_entry_eq]
  generalize (lg_sl ([.ref h0, .int v]) ++ List.replicate (3 - (lg_sl ([.ref h0, .int v])).length) Slot.unset).toArray = ls at hl ⊢
  have hl : lv_has ls 3 [(0, .ref h0), (1, .int v)] := hl
  refine lv_aload_n hx hb dX1_code_0 rfl (lv_at hl 0 rfl) ?_
  refine lv_iload_n hx hb dX1_code_1 rfl (lv_at hl 1 rfl) ?_
  refine lv_iconst (v := 0) hx hb dX1_code_2 (by decide) ?_
  refine lv_iconst (v := 1) hx hb dX1_code_3 (by decide) ?_
  have hPc := hP.sub (ws' := [(h0, .inr (1, [.ref me, .ref sp, .int fa, .int fl, .int fd, .int cr, .int lo, .int so])), (sp, .inl (cI, 33, .inl f))]) [0, 1] rfl
  have hDc := hD.sub (ws' := [(h0, .inr (1, [.ref me, .ref sp, .int fa, .int fl, .int fd, .int cr, .int lo, .int so])), (sp, .inl (cI, 33, .inl f))]) [0, 1] (by decide) rfl
  have hFc := va_free (wc := [(h0, .inr (1, [.ref me, .ref sp, .int fa, .int fl, .int fd, .int cr, .int lo, .int so])), (sp, .inl (cI, 33, .inl f))]) hD hS hA [0, 1] rfl
  have hKc := hK.sub (tys' := [(cI, .int)]) [0] rfl
  refine va_calli (va_runV (As := [.int v, .int 0, .int 1]) (rest := []) ⟨hx, hb, hml, hown, hts⟩ (c_X1_probe l dC dI (s.heap.size) h0 me sp cI f fa fl fd cr lo so v 0 1) (cwV 3 hts gX1_code_X1_probe rfl rfl rfl (by decide +kernel) ⟨Nat.le_of_ble_eq_true rfl, Nat.le_of_ble_eq_true rfl⟩) ⟨fun a U g mk q => by obtain ⟨q0, q1, qP, qK, qD⟩ := q; exact ⟨q0, q1, qP, va_K.moved (u := U) (U := U.calling g mk a) (Vm.Alike.refl U.vm) qK, qD⟩, va_recv hKc hPc (ci := 1) (q0 := 0) rfl rfl, fun U hU hW => ⟨rfl, by rw [hU], by rw [hU]; exact hPc, va_K.moved hW.alike hKc, hDc.weaken (fun _ _ _ _ => trivial)⟩⟩ rfl rfl hl.1 rfl (lv_room (Nat.le_of_ble_eq_true rfl)) dX1_code_4 ⟨Nat.le_of_ble_eq_true rfl, Nat.le_of_ble_eq_true rfl⟩) hS (fun q _ h => hFc q h) hFc (fun r_1 u_3 t H1 locs ht hvm hw_2 hB hz1 hk1 hS => ?_)
  have e1_ : r_1 = (s_X1_probe f fa fl fd v 0 1).1 := congrArg Prod.fst hw_2
  have e2_ : u_3 = (s_X1_probe f fa fl fd v 0 1).2 := congrArg Prod.snd hw_2
  subst e1_ e2_
  obtain ⟨hP1, hK1, hD1⟩ := hB
  rw [ht] at hP1
  obtain ⟨hP, hD⟩ := va_joinQ (X := [(h0, .inr (1, [.ref me, .ref sp, .int fa, .int fl, .int fd, .int cr, .int lo, .int so])), (sp, .inl (cI, 33, .inl f)), (me, .inr (0, [.ref pg])), (pg, .inl (cP, 64, .inr (.inr (.inr (.inr g)))))]) (cx := [(h0, .inr (1, [.ref me, .ref sp, .int fa, .int fl, .int fd, .int cr, .int lo, .int so])), (sp, .inl (cI, 33, .inl f))]) (wr := [(me, .inr (0, [.ref pg])), (pg, .inl (cP, 64, .inr (.inr (.inr (.inr g)))))]) (w1 := [(h0, .inr (1, [.ref me, .ref sp, .int ((s_X1_probe f fa fl fd v 0 1).2.1), .int ((s_X1_probe f fa fl fd v 0 1).2.2.1), .int ((s_X1_probe f fa fl fd v 0 1).2.2.2), .int cr, .int lo, .int so])), (sp, .inl (cI, 33, .inl f))]) hP hD [0, 1] [2, 3] rfl rfl (by decide) (by decide) hk1 hFc hP1 hD1
  generalize H1 = H at hP hS ⊢
  have hP := va_P.part (X := [(me, .inr (0, [.ref pg])), (pg, .inl (cP, 64, .inr (.inr (.inr (.inr g))))), (h0, .inr (1, [.ref me, .ref sp, .int ((s_X1_probe f fa fl fd v 0 1).2.1), .int ((s_X1_probe f fa fl fd v 0 1).2.2.1), .int ((s_X1_probe f fa fl fd v 0 1).2.2.2), .int cr, .int lo, .int so])), (sp, .inl (cI, 33, .inl f))]) (cx := [(h0, .inr (1, [.ref me, .ref sp, .int ((s_X1_probe f fa fl fd v 0 1).2.1), .int ((s_X1_probe f fa fl fd v 0 1).2.2.1), .int ((s_X1_probe f fa fl fd v 0 1).2.2.2), .int cr, .int lo, .int so])), (sp, .inl (cI, 33, .inl f)), (me, .inr (0, [.ref pg])), (pg, .inl (cP, 64, .inr (.inr (.inr (.inr g)))))]) hP [2, 3, 0, 1] rfl
  have hD := va_D.part (X := [(me, .inr (0, [.ref pg])), (pg, .inl (cP, 64, .inr (.inr (.inr (.inr g))))), (h0, .inr (1, [.ref me, .ref sp, .int ((s_X1_probe f fa fl fd v 0 1).2.1), .int ((s_X1_probe f fa fl fd v 0 1).2.2.1), .int ((s_X1_probe f fa fl fd v 0 1).2.2.2), .int cr, .int lo, .int so])), (sp, .inl (cI, 33, .inl f))]) (cx := [(h0, .inr (1, [.ref me, .ref sp, .int ((s_X1_probe f fa fl fd v 0 1).2.1), .int ((s_X1_probe f fa fl fd v 0 1).2.2.1), .int ((s_X1_probe f fa fl fd v 0 1).2.2.2), .int cr, .int lo, .int so])), (sp, .inl (cI, 33, .inl f)), (me, .inr (0, [.ref pg])), (pg, .inl (cP, 64, .inr (.inr (.inr (.inr g)))))]) hD [2, 3, 0, 1] (by decide) rfl
  have hP : va_P (dC, dI) vwCl ([(h0, .inr (1, [.ref me, .ref sp, .int ((s_X1_probe f fa fl fd v 0 1).2.1), .int ((s_X1_probe f fa fl fd v 0 1).2.2.1), .int ((s_X1_probe f fa fl fd v 0 1).2.2.2), .int cr, .int lo, .int so])), (sp, .inl (cI, 33, .inl f)), (me, .inr (0, [.ref pg])), (pg, .inl (cP, 64, .inr (.inr (.inr (.inr g)))))] ++ va_pl LP (prow cI r)) H := hP
  have hD : va_D A ([(h0, .inr (1, [.ref me, .ref sp, .int ((s_X1_probe f fa fl fd v 0 1).2.1), .int ((s_X1_probe f fa fl fd v 0 1).2.2.1), .int ((s_X1_probe f fa fl fd v 0 1).2.2.2), .int cr, .int lo, .int so])), (sp, .inl (cI, 33, .inl f)), (me, .inr (0, [.ref pg])), (pg, .inl (cP, 64, .inr (.inr (.inr (.inr g)))))] ++ va_pl LP (prow cI r)) := hD
  refine lv_istore_n (lv' := [(2, .int ((s_X1_probe f fa fl fd v 0 1).1)), (0, .ref h0), (1, .int v)]) hx hb dX1_code_7 rfl hl (by decide) rfl (fun ls hl => ?_)
  refine lv_iload_n hx hb dX1_code_8 rfl (lv_at hl 0 rfl) ?_
  refine lv_if_ge (tgt := 14) hx hb dX1_code_9 (by decide) (fun c_4 => ?_) (fun c_4 => ?_)
  · skip
    refine lv_aload_n hx hb dX1_code_14 rfl (lv_at hl 1 rfl) ?_
    refine lv_dup hx hb dX1_code_15 rfl ?_
    refine va_get (D := (dC, dI)) (ci := 1) (v := .int cr) (C := RX1) (T := TX1) (N := 8) hx hb hts miX1_code_X1 hown hK hP 0 rfl rfl 5 (by decide) (hts _ mbX1_code_1) (fun _ h9 => h9) rfl dX1_code_16 ?_
    refine lv_iconst (v := 1) hx hb dX1_code_19 (by decide) ?_
    refine lv_iadd hx hb dX1_code_20 ?_
    refine va_put (D := (dC, dI)) (ci := 1) (v := .int (cr + 1)) (ty := tyX1 5) (C := RX1) (T := TX1) (N := 8) hx hb hts miX1_code_X1 tyX1 tyX1_ok nmX1 hown hK hP hD hS 0 rfl rfl 5 (by decide) (hts _ mbX1_code_1) (fun _ h9 => h9) rfl (by decide +kernel) rfl rfl (Nat.le_of_ble_eq_true rfl) dX1_code_21 (fun H locs hP hD hS => ?_)
    have hP : va_P (dC, dI) vwCl ([(h0, .inr (1, [.ref me, .ref sp, .int ((s_X1_probe f fa fl fd v 0 1).2.1), .int ((s_X1_probe f fa fl fd v 0 1).2.2.1), .int ((s_X1_probe f fa fl fd v 0 1).2.2.2), .int (cr + 1), .int lo, .int so])), (sp, .inl (cI, 33, .inl f)), (me, .inr (0, [.ref pg])), (pg, .inl (cP, 64, .inr (.inr (.inr (.inr g)))))] ++ va_pl LP (prow cI r)) H := hP
    have hD : va_D A ([(h0, .inr (1, [.ref me, .ref sp, .int ((s_X1_probe f fa fl fd v 0 1).2.1), .int ((s_X1_probe f fa fl fd v 0 1).2.2.1), .int ((s_X1_probe f fa fl fd v 0 1).2.2.2), .int (cr + 1), .int lo, .int so])), (sp, .inl (cI, 33, .inl f)), (me, .inr (0, [.ref pg])), (pg, .inl (cP, 64, .inr (.inr (.inr (.inr g)))))] ++ va_pl LP (prow cI r)) := hD
    refine lv_aload_n hx hb dX1_code_24 rfl (lv_at hl 1 rfl) ?_
    refine va_get (D := (dC, dI)) (ci := 1) (v := .ref me) (C := RX1) (T := TX1) (N := 8) hx hb hts miX1_code_X1 hown hK hP 0 rfl rfl 0 (by decide) (hts _ mbX1_code_2) (fun _ h9 => h9) rfl dX1_code_25 ?_
    refine lv_iload_n hx hb dX1_code_28 rfl (lv_at hl 0 rfl) ?_
    have hPc := va_P.part (X := [(h0, .inr (1, [.ref me, .ref sp, .int ((s_X1_probe f fa fl fd v 0 1).2.1), .int ((s_X1_probe f fa fl fd v 0 1).2.2.1), .int ((s_X1_probe f fa fl fd v 0 1).2.2.2), .int (cr + 1), .int lo, .int so])), (sp, .inl (cI, 33, .inl f)), (me, .inr (0, [.ref pg])), (pg, .inl (cP, 64, .inr (.inr (.inr (.inr g)))))]) (cx := [(me, .inr (0, [.ref pg])), (pg, .inl (cP, 64, .inr (.inr (.inr (.inr g)))))]) hP [2, 3] rfl
    have hKc := hK.sub (tys' := [(cP, .array .int), (cI, .int)]) [1, 0] rfl
    refine vp_callSi (va_Run.run (va_runV (As := [.int ((s_X1_probe f fa fl fd v 0 1).1)]) (rest := []) ⟨hx, hb, hml, hown, hts⟩ (c_X0_wordAt l dC dI me pg cP cI g LP r ((s_X1_probe f fa fl fd v 0 1).1) hm) (cwV 1 hts gX1_code_X0_wordAt rfl rfl rfl (by decide +kernel) ⟨Nat.le_of_ble_eq_true rfl, Nat.le_of_ble_eq_true rfl⟩) ⟨fun a U g mk q => by obtain ⟨q0, qP, qK⟩ := q; exact ⟨q0, qP, va_K.moved (u := U) (U := U.calling g mk a) (Vm.Alike.refl U.vm) qK⟩, va_recv hKc hPc (ci := 0) (q0 := 0) rfl rfl, fun U hU hW => ⟨rfl, by rw [hU]; exact hPc, va_K.moved hW.alike hKc⟩⟩ rfl rfl hl.1 rfl (lv_room (Nat.le_of_ble_eq_true rfl)) dX1_code_29 ⟨Nat.le_of_ble_eq_true rfl, Nat.le_of_ble_eq_true rfl⟩)) (fun r_5 hw_6 => ?_)
    subst hw_6
    exact W.iret (v := m_get (mw g r) ((s_X1_probe f fa fl fd v 0 1).1)) hx hb hr (fun t ht hW => ⟨⟨m_get (mw g r) ((s_X1_probe f fa fl fd v 0 1).1), ((s_X1_probe f fa fl fd v 0 1).2.1, (s_X1_probe f fa fl fd v 0 1).2.2.1, (s_X1_probe f fa fl fd v 0 1).2.2.2, cr + 1), rfl, by simp only [s_X1_code, if_pos c_4], by rw [ht]; exact hP, va_K.moved hW.alike hK, hD⟩, hS.F ht⟩) hS.2.2 dX1_code_32
  · skip
    refine lv_iconst (v := 0) hx hb dX1_code_12 (by decide) ?_
    exact W.iret (v := 0) hx hb hr (fun t ht hW => ⟨⟨0, ((s_X1_probe f fa fl fd v 0 1).2.1, (s_X1_probe f fa fl fd v 0 1).2.2.1, (s_X1_probe f fa fl fd v 0 1).2.2.2, cr), rfl, by simp only [s_X1_code, if_neg c_4], by rw [ht]; exact hP, va_K.moved hW.alike hK, hD⟩, hS.F ht⟩) hS.2.2 dX1_code_13
set_option maxRecDepth 100000 in
theorem miX1_load_X1 : ∀ w ∈ u_ws RX1 TX1 8, w ∈ wsX1_load := by decide +kernel
set_option maxRecDepth 100000 in
theorem mbX1_load_1 : (.fieldLink RX1 43 "SoftMaps" "loads" "I" : Cond) ∈ wsX1_load := by decide +kernel
set_option maxRecDepth 100000 in
theorem mbX1_load_2 : (.fieldLink RX1 12 "SoftMaps" "memory" "LSoftMaps$Memory;" : Cond) ∈ wsX1_load := by decide +kernel
def s_X1_load (f M : Nat → Int32) (fa fl fd lo : Int32) (v : Int32) (wd : Int32) : Int32 × (Int32 × Int32 × Int32 × Int32) :=
  if 0 ≤ (s_X1_probe f fa fl fd v 1 wd).1 then
    if wd = 0 then
      (s_X0_byteAt M ((s_X1_probe f fa fl fd v 1 wd).1), ((s_X1_probe f fa fl fd v 1 wd).2.1, (s_X1_probe f fa fl fd v 1 wd).2.2.1, (s_X1_probe f fa fl fd v 1 wd).2.2.2, lo + 1))
    else
      (m_get M ((s_X1_probe f fa fl fd v 1 wd).1), ((s_X1_probe f fa fl fd v 1 wd).2.1, (s_X1_probe f fa fl fd v 1 wd).2.2.1, (s_X1_probe f fa fl fd v 1 wd).2.2.2, lo + 1))
  else
    (0, ((s_X1_probe f fa fl fd v 1 wd).2.1, (s_X1_probe f fa fl fd v 1 wd).2.2.1, (s_X1_probe f fa fl fd v 1 wd).2.2.2, lo))
set_option maxHeartbeats 4000000 in
set_option maxRecDepth 100000 in
theorem c_X1_load (l : Launch) (dC : Nat → ClassId) (dI : Nat → Nat → Nat) (sz : Nat) (h0 me sp : Nat) (cI : ClassId) (f : Nat → Int32) (fa fl fd cr lo so : Int32) (pg : Nat) (cP : ClassId) (g : Nat → Option Nat) (LP : List Nat) (r : Nat → Nat → Int32) (v : Int32) (wd : Int32) (hm : mok g LP) : Met l yX1_load wsX1_load ({ frames := 4, cells := 0, slots := 0, locals := 90 }) (va_Pc [.ref h0, .int v, .int wd] (fun U => U.heap.size = sz ∧ va_P (dC, dI) vwCl ([(h0, .inr (1, [.ref me, .ref sp, .int fa, .int fl, .int fd, .int cr, .int lo, .int so])), (sp, .inl (cI, 33, .inl f)), (me, .inr (0, [.ref pg])), (pg, .inl (cP, 64, .inr (.inr (.inr (.inr g)))))] ++ va_pl LP (prow cI r)) U.heap ∧ va_K (dC, dI) vwCl [(cI, .int), (cP, .array .int)] U ∧ va_D (fun _ => True) ([(h0, .inr (1, [.ref me, .ref sp, .int fa, .int fl, .int fd, .int cr, .int lo, .int so])), (sp, .inl (cI, 33, .inl f)), (me, .inr (0, [.ref pg])), (pg, .inl (cP, 64, .inr (.inr (.inr (.inr g)))))] ++ va_pl LP (prow cI r)))) (va_Qi (fun (a_ : Int32) (u : Int32 × Int32 × Int32 × Int32) => (a_, u) = s_X1_load f (mw g r) fa fl fd lo v wd) (fun (u : Int32 × Int32 × Int32 × Int32) (t : State) => va_P (dC, dI) vwCl ([(h0, .inr (1, [.ref me, .ref sp, .int u.1, .int u.2.1, .int u.2.2.1, .int cr, .int u.2.2.2, .int so])), (sp, .inl (cI, 33, .inl f)), (me, .inr (0, [.ref pg])), (pg, .inl (cP, 64, .inr (.inr (.inr (.inr g)))))] ++ va_pl LP (prow cI r)) t.heap ∧ va_K (dC, dI) vwCl [(cI, .int), (cP, .array .int)] t ∧ va_D (va_A ([(h0, .inr (1, [.ref me, .ref sp, .int fa, .int fl, .int fd, .int cr, .int lo, .int so])), (sp, .inl (cI, 33, .inl f)), (me, .inr (0, [.ref pg])), (pg, .inl (cP, 64, .inr (.inr (.inr (.inr g)))))] ++ va_pl LP (prow cI r)) sz) ([(h0, .inr (1, [.ref me, .ref sp, .int u.1, .int u.2.1, .int u.2.2.1, .int cr, .int u.2.2.2, .int so])), (sp, .inl (cI, 33, .inl f)), (me, .inr (0, [.ref pg])), (pg, .inl (cP, 64, .inr (.inr (.inr (.inr g)))))] ++ va_pl LP (prow cI r))) (va_A ([(h0, .inr (1, [.ref me, .ref sp, .int fa, .int fl, .int fd, .int cr, .int lo, .int so])), (sp, .inl (cI, 33, .inl f)), (me, .inr (0, [.ref pg])), (pg, .inl (cP, 64, .inr (.inr (.inr (.inr g)))))] ++ va_pl LP (prow cI r)) sz)) 0 0 (va_A ([(h0, .inr (1, [.ref me, .ref sp, .int fa, .int fl, .int fd, .int cr, .int lo, .int so])), (sp, .inl (cI, 33, .inl f)), (me, .inr (0, [.ref pg])), (pg, .inl (cP, 64, .inr (.inr (.inr (.inr g)))))] ++ va_pl LP (prow cI r)) sz) := by
  refine Met.ofW (cc := cX1_load) (maxL := 4) (ret := (some .int)) (by decide) rfl ?_
  intro p e s m args below meth c s₁ B hml hv
  obtain ⟨rfl, hsz, hP, hK, hD0⟩ := hv
  have hx := B.exec
  have hb := B.bytes
  have hr := B.returns
  have hts := atoms_spec (ws := wsX1_load) B.pre
  have hown : s.vm.findClass RX1 = some m.cls := findClass_of_methodNamed B.named
  have hlocks := B.notSynchronized
  subst hsz
  have hD := hD0.self (sz := s.heap.size)
  generalize hAe : va_A ([(h0, .inr (1, [.ref me, .ref sp, .int fa, .int fl, .int fd, .int cr, .int lo, .int so])), (sp, .inl (cI, 33, .inl f)), (me, .inr (0, [.ref pg])), (pg, .inl (cP, 64, .inr (.inr (.inr (.inr g)))))] ++ va_pl LP (prow cI r)) s.heap.size = A at hD ⊢
  have hA : ∀ q : Nat, s.heap.size ≤ q → A q := fun q h => by rw [← hAe]; exact Or.inr h
  have hS : va_S A s.heap s.heap [] := va_S.rf
  have hP : va_P (dC, dI) vwCl ([(h0, .inr (1, [.ref me, .ref sp, .int fa, .int fl, .int fd, .int cr, .int lo, .int so])), (sp, .inl (cI, 33, .inl f)), (me, .inr (0, [.ref pg])), (pg, .inl (cP, 64, .inr (.inr (.inr (.inr g)))))] ++ va_pl LP (prow cI r)) s.heap := hP
  have hl := lv_entry ([.ref h0, .int v, .int wd]) (n := 4) (Nat.le_of_ble_eq_true rfl)
  rw [lg_entry_eq]
  generalize (lg_sl ([.ref h0, .int v, .int wd]) ++ List.replicate (4 - (lg_sl ([.ref h0, .int v, .int wd])).length) Slot.unset).toArray = ls at hl ⊢
  have hl : lv_has ls 4 [(0, .ref h0), (1, .int v), (2, .int wd)] := hl
  refine lv_aload_n hx hb dX1_load_0 rfl (lv_at hl 0 rfl) ?_
  refine lv_iload_n hx hb dX1_load_1 rfl (lv_at hl 1 rfl) ?_
  refine lv_iconst (v := 1) hx hb dX1_load_2 (by decide) ?_
  refine lv_iload_n hx hb dX1_load_3 rfl (lv_at hl 2 rfl) ?_
  have hPc := hP.sub (ws' := [(h0, .inr (1, [.ref me, .ref sp, .int fa, .int fl, .int fd, .int cr, .int lo, .int so])), (sp, .inl (cI, 33, .inl f))]) [0, 1] rfl
  have hDc := hD.sub (ws' := [(h0, .inr (1, [.ref me, .ref sp, .int fa, .int fl, .int fd, .int cr, .int lo, .int so])), (sp, .inl (cI, 33, .inl f))]) [0, 1] (by decide) rfl
  have hFc := va_free (wc := [(h0, .inr (1, [.ref me, .ref sp, .int fa, .int fl, .int fd, .int cr, .int lo, .int so])), (sp, .inl (cI, 33, .inl f))]) hD hS hA [0, 1] rfl
  have hKc := hK.sub (tys' := [(cI, .int)]) [0] rfl
  refine va_calli (va_runV (As := [.int v, .int 1, .int wd]) (rest := []) ⟨hx, hb, hml, hown, hts⟩ (c_X1_probe l dC dI (s.heap.size) h0 me sp cI f fa fl fd cr lo so v 1 wd) (cwV 3 hts gX1_load_X1_probe rfl rfl rfl (by decide +kernel) ⟨Nat.le_of_ble_eq_true rfl, Nat.le_of_ble_eq_true rfl⟩) ⟨fun a U g mk q => by obtain ⟨q0, q1, qP, qK, qD⟩ := q; exact ⟨q0, q1, qP, va_K.moved (u := U) (U := U.calling g mk a) (Vm.Alike.refl U.vm) qK, qD⟩, va_recv hKc hPc (ci := 1) (q0 := 0) rfl rfl, fun U hU hW => ⟨rfl, by rw [hU], by rw [hU]; exact hPc, va_K.moved hW.alike hKc, hDc.weaken (fun _ _ _ _ => trivial)⟩⟩ rfl rfl hl.1 rfl (lv_room (Nat.le_of_ble_eq_true rfl)) dX1_load_4 ⟨Nat.le_of_ble_eq_true rfl, Nat.le_of_ble_eq_true rfl⟩) hS (fun q _ h => hFc q h) hFc (fun r_1 u_3 t H1 locs ht hvm hw_2 hB hz1 hk1 hS => ?_)
  have e1_ : r_1 = (s_X1_probe f fa fl fd v 1 wd).1 := congrArg Prod.fst hw_2
  have e2_ : u_3 = (s_X1_probe f fa fl fd v 1 wd).2 := congrArg Prod.snd hw_2
  subst e1_ e2_
  obtain ⟨hP1, hK1, hD1⟩ := hB
  rw [ht] at hP1
  obtain ⟨hP, hD⟩ := va_joinQ (X := [(h0, .inr (1, [.ref me, .ref sp, .int fa, .int fl, .int fd, .int cr, .int lo, .int so])), (sp, .inl (cI, 33, .inl f)), (me, .inr (0, [.ref pg])), (pg, .inl (cP, 64, .inr (.inr (.inr (.inr g)))))]) (cx := [(h0, .inr (1, [.ref me, .ref sp, .int fa, .int fl, .int fd, .int cr, .int lo, .int so])), (sp, .inl (cI, 33, .inl f))]) (wr := [(me, .inr (0, [.ref pg])), (pg, .inl (cP, 64, .inr (.inr (.inr (.inr g)))))]) (w1 := [(h0, .inr (1, [.ref me, .ref sp, .int ((s_X1_probe f fa fl fd v 1 wd).2.1), .int ((s_X1_probe f fa fl fd v 1 wd).2.2.1), .int ((s_X1_probe f fa fl fd v 1 wd).2.2.2), .int cr, .int lo, .int so])), (sp, .inl (cI, 33, .inl f))]) hP hD [0, 1] [2, 3] rfl rfl (by decide) (by decide) hk1 hFc hP1 hD1
  generalize H1 = H at hP hS ⊢
  have hP := va_P.part (X := [(me, .inr (0, [.ref pg])), (pg, .inl (cP, 64, .inr (.inr (.inr (.inr g))))), (h0, .inr (1, [.ref me, .ref sp, .int ((s_X1_probe f fa fl fd v 1 wd).2.1), .int ((s_X1_probe f fa fl fd v 1 wd).2.2.1), .int ((s_X1_probe f fa fl fd v 1 wd).2.2.2), .int cr, .int lo, .int so])), (sp, .inl (cI, 33, .inl f))]) (cx := [(h0, .inr (1, [.ref me, .ref sp, .int ((s_X1_probe f fa fl fd v 1 wd).2.1), .int ((s_X1_probe f fa fl fd v 1 wd).2.2.1), .int ((s_X1_probe f fa fl fd v 1 wd).2.2.2), .int cr, .int lo, .int so])), (sp, .inl (cI, 33, .inl f)), (me, .inr (0, [.ref pg])), (pg, .inl (cP, 64, .inr (.inr (.inr (.inr g)))))]) hP [2, 3, 0, 1] rfl
  have hD := va_D.part (X := [(me, .inr (0, [.ref pg])), (pg, .inl (cP, 64, .inr (.inr (.inr (.inr g))))), (h0, .inr (1, [.ref me, .ref sp, .int ((s_X1_probe f fa fl fd v 1 wd).2.1), .int ((s_X1_probe f fa fl fd v 1 wd).2.2.1), .int ((s_X1_probe f fa fl fd v 1 wd).2.2.2), .int cr, .int lo, .int so])), (sp, .inl (cI, 33, .inl f))]) (cx := [(h0, .inr (1, [.ref me, .ref sp, .int ((s_X1_probe f fa fl fd v 1 wd).2.1), .int ((s_X1_probe f fa fl fd v 1 wd).2.2.1), .int ((s_X1_probe f fa fl fd v 1 wd).2.2.2), .int cr, .int lo, .int so])), (sp, .inl (cI, 33, .inl f)), (me, .inr (0, [.ref pg])), (pg, .inl (cP, 64, .inr (.inr (.inr (.inr g)))))]) hD [2, 3, 0, 1] (by decide) rfl
  have hP : va_P (dC, dI) vwCl ([(h0, .inr (1, [.ref me, .ref sp, .int ((s_X1_probe f fa fl fd v 1 wd).2.1), .int ((s_X1_probe f fa fl fd v 1 wd).2.2.1), .int ((s_X1_probe f fa fl fd v 1 wd).2.2.2), .int cr, .int lo, .int so])), (sp, .inl (cI, 33, .inl f)), (me, .inr (0, [.ref pg])), (pg, .inl (cP, 64, .inr (.inr (.inr (.inr g)))))] ++ va_pl LP (prow cI r)) H := hP
  have hD : va_D A ([(h0, .inr (1, [.ref me, .ref sp, .int ((s_X1_probe f fa fl fd v 1 wd).2.1), .int ((s_X1_probe f fa fl fd v 1 wd).2.2.1), .int ((s_X1_probe f fa fl fd v 1 wd).2.2.2), .int cr, .int lo, .int so])), (sp, .inl (cI, 33, .inl f)), (me, .inr (0, [.ref pg])), (pg, .inl (cP, 64, .inr (.inr (.inr (.inr g)))))] ++ va_pl LP (prow cI r)) := hD
  refine lv_istore_n (lv' := [(3, .int ((s_X1_probe f fa fl fd v 1 wd).1)), (0, .ref h0), (1, .int v), (2, .int wd)]) hx hb dX1_load_7 rfl hl (by decide) rfl (fun ls hl => ?_)
  refine lv_iload_n hx hb dX1_load_8 rfl (lv_at hl 0 rfl) ?_
  refine lv_if_ge (tgt := 14) hx hb dX1_load_9 (by decide) (fun c_4 => ?_) (fun c_4 => ?_)
  · skip
    refine lv_aload_n hx hb dX1_load_14 rfl (lv_at hl 1 rfl) ?_
    refine lv_dup hx hb dX1_load_15 rfl ?_
    refine va_get (D := (dC, dI)) (ci := 1) (v := .int lo) (C := RX1) (T := TX1) (N := 8) hx hb hts miX1_load_X1 hown hK hP 0 rfl rfl 6 (by decide) (hts _ mbX1_load_1) (fun _ h9 => h9) rfl dX1_load_16 ?_
    refine lv_iconst (v := 1) hx hb dX1_load_19 (by decide) ?_
    refine lv_iadd hx hb dX1_load_20 ?_
    refine va_put (D := (dC, dI)) (ci := 1) (v := .int (lo + 1)) (ty := tyX1 6) (C := RX1) (T := TX1) (N := 8) hx hb hts miX1_load_X1 tyX1 tyX1_ok nmX1 hown hK hP hD hS 0 rfl rfl 6 (by decide) (hts _ mbX1_load_1) (fun _ h9 => h9) rfl (by decide +kernel) rfl rfl (Nat.le_of_ble_eq_true rfl) dX1_load_21 (fun H locs hP hD hS => ?_)
    have hP : va_P (dC, dI) vwCl ([(h0, .inr (1, [.ref me, .ref sp, .int ((s_X1_probe f fa fl fd v 1 wd).2.1), .int ((s_X1_probe f fa fl fd v 1 wd).2.2.1), .int ((s_X1_probe f fa fl fd v 1 wd).2.2.2), .int cr, .int (lo + 1), .int so])), (sp, .inl (cI, 33, .inl f)), (me, .inr (0, [.ref pg])), (pg, .inl (cP, 64, .inr (.inr (.inr (.inr g)))))] ++ va_pl LP (prow cI r)) H := hP
    have hD : va_D A ([(h0, .inr (1, [.ref me, .ref sp, .int ((s_X1_probe f fa fl fd v 1 wd).2.1), .int ((s_X1_probe f fa fl fd v 1 wd).2.2.1), .int ((s_X1_probe f fa fl fd v 1 wd).2.2.2), .int cr, .int (lo + 1), .int so])), (sp, .inl (cI, 33, .inl f)), (me, .inr (0, [.ref pg])), (pg, .inl (cP, 64, .inr (.inr (.inr (.inr g)))))] ++ va_pl LP (prow cI r)) := hD
    refine lv_iload_n hx hb dX1_load_24 rfl (lv_at hl 3 rfl) ?_
    refine lv_if_eq (tgt := 39) hx hb dX1_load_25 (by decide) (fun c_5 => ?_) (fun c_5 => ?_)
    · skip
      refine lv_aload_n hx hb dX1_load_39 rfl (lv_at hl 1 rfl) ?_
      refine va_get (D := (dC, dI)) (ci := 1) (v := .ref me) (C := RX1) (T := TX1) (N := 8) hx hb hts miX1_load_X1 hown hK hP 0 rfl rfl 0 (by decide) (hts _ mbX1_load_2) (fun _ h9 => h9) rfl dX1_load_40 ?_
      refine lv_iload_n hx hb dX1_load_43 rfl (lv_at hl 0 rfl) ?_
      have hPc := va_P.part (X := [(h0, .inr (1, [.ref me, .ref sp, .int ((s_X1_probe f fa fl fd v 1 wd).2.1), .int ((s_X1_probe f fa fl fd v 1 wd).2.2.1), .int ((s_X1_probe f fa fl fd v 1 wd).2.2.2), .int cr, .int (lo + 1), .int so])), (sp, .inl (cI, 33, .inl f)), (me, .inr (0, [.ref pg])), (pg, .inl (cP, 64, .inr (.inr (.inr (.inr g)))))]) (cx := [(me, .inr (0, [.ref pg])), (pg, .inl (cP, 64, .inr (.inr (.inr (.inr g)))))]) hP [2, 3] rfl
      have hKc := hK.sub (tys' := [(cP, .array .int), (cI, .int)]) [1, 0] rfl
      refine vp_callSi (va_Run.run (va_runV (As := [.int ((s_X1_probe f fa fl fd v 1 wd).1)]) (rest := []) ⟨hx, hb, hml, hown, hts⟩ (c_X0_byteAt l dC dI me pg cP cI g LP r ((s_X1_probe f fa fl fd v 1 wd).1) hm) (cwV 1 hts gX1_load_X0_byteAt rfl rfl rfl (by decide +kernel) ⟨Nat.le_of_ble_eq_true rfl, Nat.le_of_ble_eq_true rfl⟩) ⟨fun a U g mk q => by obtain ⟨q0, qP, qK⟩ := q; exact ⟨q0, qP, va_K.moved (u := U) (U := U.calling g mk a) (Vm.Alike.refl U.vm) qK⟩, va_recv hKc hPc (ci := 0) (q0 := 0) rfl rfl, fun U hU hW => ⟨rfl, by rw [hU]; exact hPc, va_K.moved hW.alike hKc⟩⟩ rfl rfl hl.1 rfl (lv_room (Nat.le_of_ble_eq_true rfl)) dX1_load_44 ⟨Nat.le_of_ble_eq_true rfl, Nat.le_of_ble_eq_true rfl⟩)) (fun r_6 hw_7 => ?_)
      subst hw_7
      exact W.iret (v := s_X0_byteAt (mw g r) ((s_X1_probe f fa fl fd v 1 wd).1)) hx hb hr (fun t ht hW => ⟨⟨s_X0_byteAt (mw g r) ((s_X1_probe f fa fl fd v 1 wd).1), ((s_X1_probe f fa fl fd v 1 wd).2.1, (s_X1_probe f fa fl fd v 1 wd).2.2.1, (s_X1_probe f fa fl fd v 1 wd).2.2.2, lo + 1), rfl, by simp only [s_X1_load, if_pos c_4, if_pos c_5], by rw [ht]; exact hP, va_K.moved hW.alike hK, hD⟩, hS.F ht⟩) hS.2.2 dX1_load_47
    · skip
      refine lv_aload_n hx hb dX1_load_28 rfl (lv_at hl 1 rfl) ?_
      refine va_get (D := (dC, dI)) (ci := 1) (v := .ref me) (C := RX1) (T := TX1) (N := 8) hx hb hts miX1_load_X1 hown hK hP 0 rfl rfl 0 (by decide) (hts _ mbX1_load_2) (fun _ h9 => h9) rfl dX1_load_29 ?_
      refine lv_iload_n hx hb dX1_load_32 rfl (lv_at hl 0 rfl) ?_
      have hPc := va_P.part (X := [(h0, .inr (1, [.ref me, .ref sp, .int ((s_X1_probe f fa fl fd v 1 wd).2.1), .int ((s_X1_probe f fa fl fd v 1 wd).2.2.1), .int ((s_X1_probe f fa fl fd v 1 wd).2.2.2), .int cr, .int (lo + 1), .int so])), (sp, .inl (cI, 33, .inl f)), (me, .inr (0, [.ref pg])), (pg, .inl (cP, 64, .inr (.inr (.inr (.inr g)))))]) (cx := [(me, .inr (0, [.ref pg])), (pg, .inl (cP, 64, .inr (.inr (.inr (.inr g)))))]) hP [2, 3] rfl
      have hKc := hK.sub (tys' := [(cP, .array .int), (cI, .int)]) [1, 0] rfl
      refine vp_callSi (va_Run.run (va_runV (As := [.int ((s_X1_probe f fa fl fd v 1 wd).1)]) (rest := []) ⟨hx, hb, hml, hown, hts⟩ (c_X0_wordAt l dC dI me pg cP cI g LP r ((s_X1_probe f fa fl fd v 1 wd).1) hm) (cwV 1 hts gX1_load_X0_wordAt rfl rfl rfl (by decide +kernel) ⟨Nat.le_of_ble_eq_true rfl, Nat.le_of_ble_eq_true rfl⟩) ⟨fun a U g mk q => by obtain ⟨q0, qP, qK⟩ := q; exact ⟨q0, qP, va_K.moved (u := U) (U := U.calling g mk a) (Vm.Alike.refl U.vm) qK⟩, va_recv hKc hPc (ci := 0) (q0 := 0) rfl rfl, fun U hU hW => ⟨rfl, by rw [hU]; exact hPc, va_K.moved hW.alike hKc⟩⟩ rfl rfl hl.1 rfl (lv_room (Nat.le_of_ble_eq_true rfl)) dX1_load_33 ⟨Nat.le_of_ble_eq_true rfl, Nat.le_of_ble_eq_true rfl⟩)) (fun r_8 hw_9 => ?_)
      subst hw_9
      refine lv_goto (tgt := 47) hx hb dX1_load_36 (by decide) ?_
      exact W.iret (v := m_get (mw g r) ((s_X1_probe f fa fl fd v 1 wd).1)) hx hb hr (fun t ht hW => ⟨⟨m_get (mw g r) ((s_X1_probe f fa fl fd v 1 wd).1), ((s_X1_probe f fa fl fd v 1 wd).2.1, (s_X1_probe f fa fl fd v 1 wd).2.2.1, (s_X1_probe f fa fl fd v 1 wd).2.2.2, lo + 1), rfl, by simp only [s_X1_load, if_pos c_4, if_neg c_5], by rw [ht]; exact hP, va_K.moved hW.alike hK, hD⟩, hS.F ht⟩) hS.2.2 dX1_load_47
  · skip
    refine lv_iconst (v := 0) hx hb dX1_load_12 (by decide) ?_
    exact W.iret (v := 0) hx hb hr (fun t ht hW => ⟨⟨0, ((s_X1_probe f fa fl fd v 1 wd).2.1, (s_X1_probe f fa fl fd v 1 wd).2.2.1, (s_X1_probe f fa fl fd v 1 wd).2.2.2, lo), rfl, by simp only [s_X1_load, if_neg c_4], by rw [ht]; exact hP, va_K.moved hW.alike hK, hD⟩, hS.F ht⟩) hS.2.2 dX1_load_13
set_option maxRecDepth 100000 in
theorem miX1_poke_X1 : ∀ w ∈ u_ws RX1 TX1 8, w ∈ wsX1_poke := by decide +kernel
set_option maxRecDepth 100000 in
theorem mbX1_poke_1 : (.fieldLink RX1 12 "SoftMaps" "memory" "LSoftMaps$Memory;" : Cond) ∈ wsX1_poke := by decide +kernel
def s_X1_poke (M : Nat → Int32) (pl w : Int32) : Int32 × (Nat → Int32) :=
  if s_X1_isWordPlace pl = 0 then
    (0, M)
  else
    (1, m_put M pl w)
set_option maxHeartbeats 4000000 in
set_option maxRecDepth 100000 in
theorem c_X1_poke (l : Launch) (dC : Nat → ClassId) (dI : Nat → Nat → Nat) (sz : Nat) (h0 me sp : Nat) (cI : ClassId) (f : Nat → Int32) (fa fl fd cr lo so : Int32) (pg : Nat) (cP : ClassId) (g : Nat → Option Nat) (LP : List Nat) (r : Nat → Nat → Int32) (pl w : Int32) (hm : mok g LP) : Met l yX1_poke wsX1_poke ({ frames := 2, cells := 1, slots := 256, locals := 43 }) (va_Pc [.ref h0, .int pl, .int w] (fun U => U.heap.size = sz ∧ va_P (dC, dI) vwCl ([(h0, .inr (1, [.ref me, .ref sp, .int fa, .int fl, .int fd, .int cr, .int lo, .int so])), (sp, .inl (cI, 33, .inl f)), (me, .inr (0, [.ref pg])), (pg, .inl (cP, 64, .inr (.inr (.inr (.inr g)))))] ++ va_pl LP (prow cI r)) U.heap ∧ va_K (dC, dI) vwCl [(cI, .int), (cP, .array .int)] U ∧ va_D (fun _ => True) ([(h0, .inr (1, [.ref me, .ref sp, .int fa, .int fl, .int fd, .int cr, .int lo, .int so])), (sp, .inl (cI, 33, .inl f)), (me, .inr (0, [.ref pg])), (pg, .inl (cP, 64, .inr (.inr (.inr (.inr g)))))] ++ va_pl LP (prow cI r)) ∧ ag_O .int U)) (va_Qi (fun (a_ : Int32) (u : (Nat → Option Nat) × List Nat × (Nat → Nat → Int32)) => a_ = (s_X1_poke (mw g r) pl w).1 ∧ mok u.1 u.2.1 ∧ ∀ k, k < 16384 → mw u.1 u.2.2 k = (s_X1_poke (mw g r) pl w).2 k) (fun (u : (Nat → Option Nat) × List Nat × (Nat → Nat → Int32)) (t : State) => va_P (dC, dI) vwCl ([(h0, .inr (1, [.ref me, .ref sp, .int fa, .int fl, .int fd, .int cr, .int lo, .int so])), (sp, .inl (cI, 33, .inl f)), (me, .inr (0, [.ref pg])), (pg, .inl (cP, 64, .inr (.inr (.inr (.inr u.1)))))] ++ va_pl u.2.1 (prow cI u.2.2)) t.heap ∧ va_K (dC, dI) vwCl [(cI, .int), (cP, .array .int)] t ∧ va_D (va_A ([(h0, .inr (1, [.ref me, .ref sp, .int fa, .int fl, .int fd, .int cr, .int lo, .int so])), (sp, .inl (cI, 33, .inl f)), (me, .inr (0, [.ref pg])), (pg, .inl (cP, 64, .inr (.inr (.inr (.inr g)))))] ++ va_pl LP (prow cI r)) sz) ([(h0, .inr (1, [.ref me, .ref sp, .int fa, .int fl, .int fd, .int cr, .int lo, .int so])), (sp, .inl (cI, 33, .inl f)), (me, .inr (0, [.ref pg])), (pg, .inl (cP, 64, .inr (.inr (.inr (.inr u.1)))))] ++ va_pl u.2.1 (prow cI u.2.2))) (va_A ([(h0, .inr (1, [.ref me, .ref sp, .int fa, .int fl, .int fd, .int cr, .int lo, .int so])), (sp, .inl (cI, 33, .inl f)), (me, .inr (0, [.ref pg])), (pg, .inl (cP, 64, .inr (.inr (.inr (.inr g)))))] ++ va_pl LP (prow cI r)) sz)) 1 256 (va_A ([(h0, .inr (1, [.ref me, .ref sp, .int fa, .int fl, .int fd, .int cr, .int lo, .int so])), (sp, .inl (cI, 33, .inl f)), (me, .inr (0, [.ref pg])), (pg, .inl (cP, 64, .inr (.inr (.inr (.inr g)))))] ++ va_pl LP (prow cI r)) sz) := by
  refine Met.ofW (cc := cX1_poke) (maxL := 3) (ret := (some .boolean)) (by decide) rfl ?_
  intro p e s m args below meth c s₁ B hml hv
  obtain ⟨rfl, hsz, hP, hK, hD0, hZ⟩ := hv
  have hx := B.exec
  have hb := B.bytes
  have hr := B.returns
  have hts := atoms_spec (ws := wsX1_poke) B.pre
  have hown : s.vm.findClass RX1 = some m.cls := findClass_of_methodNamed B.named
  have hlocks := B.notSynchronized
  subst hsz
  have hD := hD0.self (sz := s.heap.size)
  generalize hAe : va_A ([(h0, .inr (1, [.ref me, .ref sp, .int fa, .int fl, .int fd, .int cr, .int lo, .int so])), (sp, .inl (cI, 33, .inl f)), (me, .inr (0, [.ref pg])), (pg, .inl (cP, 64, .inr (.inr (.inr (.inr g)))))] ++ va_pl LP (prow cI r)) s.heap.size = A at hD ⊢
  have hA : ∀ q : Nat, s.heap.size ≤ q → A q := fun q h => by rw [← hAe]; exact Or.inr h
  have hS : va_S A s.heap s.heap [] := va_S.rf
  have hP : va_P (dC, dI) vwCl ([(h0, .inr (1, [.ref me, .ref sp, .int fa, .int fl, .int fd, .int cr, .int lo, .int so])), (sp, .inl (cI, 33, .inl f)), (me, .inr (0, [.ref pg])), (pg, .inl (cP, 64, .inr (.inr (.inr (.inr g)))))] ++ va_pl LP (prow cI r)) s.heap := hP
  have hl := lv_entry ([.ref h0, .int pl, .int w]) (n := 3) (Nat.le_of_ble_eq_true rfl)
  rw [lg_entry_eq]
  generalize (lg_sl ([.ref h0, .int pl, .int w]) ++ List.replicate (3 - (lg_sl ([.ref h0, .int pl, .int w])).length) Slot.unset).toArray = ls at hl ⊢
  have hl : lv_has ls 3 [(0, .ref h0), (1, .int pl), (2, .int w)] := hl
  refine lv_iload_n hx hb dX1_poke_0 rfl (lv_at hl 1 rfl) ?_
  refine vp_callSi (va_Run.run (va_runS (As := [.int pl]) (rest := []) ⟨hx, hb, hml, hown, hts⟩ (c_X1_isWordPlace l pl) (va_cwS 1 hts gX1_poke_X1_isWordPlace rfl rfl rfl (by decide +kernel) ⟨Nat.le_of_ble_eq_true rfl, Nat.le_of_ble_eq_true rfl⟩) ⟨fun a U g mk q => q, fun U hU hW => ⟨rfl, trivial⟩⟩ rfl rfl hl.1 rfl (lv_room (Nat.le_of_ble_eq_true rfl)) dX1_poke_1 ⟨Nat.le_of_ble_eq_true rfl, Nat.le_of_ble_eq_true rfl⟩)) (fun r_1 hw_2 => ?_)
  subst hw_2
  refine lv_if_ne (tgt := 9) hx hb dX1_poke_4 (by decide) (fun c_3 => ?_) (fun c_3 => ?_)
  · skip
    refine lv_aload_n hx hb dX1_poke_9 rfl (lv_at hl 0 rfl) ?_
    refine va_get (D := (dC, dI)) (ci := 1) (v := .ref me) (C := RX1) (T := TX1) (N := 8) hx hb hts miX1_poke_X1 hown hK hP 0 rfl rfl 0 (by decide) (hts _ mbX1_poke_1) (fun _ h9 => h9) rfl dX1_poke_10 ?_
    refine lv_iload_n hx hb dX1_poke_13 rfl (lv_at hl 1 rfl) ?_
    refine lv_iload_n hx hb dX1_poke_14 rfl (lv_at hl 2 rfl) ?_
    have hPc := va_P.part (X := [(h0, .inr (1, [.ref me, .ref sp, .int fa, .int fl, .int fd, .int cr, .int lo, .int so])), (sp, .inl (cI, 33, .inl f)), (me, .inr (0, [.ref pg])), (pg, .inl (cP, 64, .inr (.inr (.inr (.inr g)))))]) (cx := [(me, .inr (0, [.ref pg])), (pg, .inl (cP, 64, .inr (.inr (.inr (.inr g)))))]) hP [2, 3] rfl
    have hDc := va_D.part (X := [(h0, .inr (1, [.ref me, .ref sp, .int fa, .int fl, .int fd, .int cr, .int lo, .int so])), (sp, .inl (cI, 33, .inl f)), (me, .inr (0, [.ref pg])), (pg, .inl (cP, 64, .inr (.inr (.inr (.inr g)))))]) (cx := [(me, .inr (0, [.ref pg])), (pg, .inl (cP, 64, .inr (.inr (.inr (.inr g)))))]) hD [2, 3] (by decide) rfl
    have hFc := va_freeP (X := [(h0, .inr (1, [.ref me, .ref sp, .int fa, .int fl, .int fd, .int cr, .int lo, .int so])), (sp, .inl (cI, 33, .inl f)), (me, .inr (0, [.ref pg])), (pg, .inl (cP, 64, .inr (.inr (.inr (.inr g)))))]) (cx := [(me, .inr (0, [.ref pg])), (pg, .inl (cP, 64, .inr (.inr (.inr (.inr g)))))]) hD hS hA [2, 3] rfl
    have hKc := hK.sub (tys' := [(cP, .array .int), (cI, .int)]) [1, 0] rfl
    refine va_callv (va_runV (As := [.int pl, .int w]) (rest := []) ⟨hx, hb, hml, hown, hts⟩ (c_X0_putWord l dC dI (s.heap.size) me pg cP cI g LP r pl w hm) (cwV 2 hts gX1_poke_X0_putWord rfl rfl rfl (by decide +kernel) ⟨Nat.le_of_ble_eq_true rfl, Nat.le_of_ble_eq_true rfl⟩) ⟨fun a U g mk q => by obtain ⟨q0, q1, qP, qK, qD, q7⟩ := q; exact ⟨q0, q1, qP, va_K.moved (u := U) (U := U.calling g mk a) (Vm.Alike.refl U.vm) qK, qD, ag_O.moved (Vm.Alike.refl U.vm) q7⟩, va_recv hKc hPc (ci := 0) (q0 := 0) rfl rfl, fun U hU hW => ⟨rfl, by rw [hU], by rw [hU]; exact hPc, va_K.moved hW.alike hKc, hDc.weaken (fun _ _ _ _ => trivial), hZ.moved hW.alike⟩⟩ rfl rfl hl.1 rfl (lv_room (Nat.le_of_ble_eq_true rfl)) dX1_poke_15 ⟨Nat.le_of_ble_eq_true rfl, Nat.le_of_ble_eq_true rfl⟩) hS (fun q _ h => hFc q h) hFc (fun u_6 t H1 locs ht hvm hw_5 hB hz1 hk1 hS => ?_)
    obtain ⟨g_7, LP_8, r_9⟩ := u_6
    obtain ⟨hm_10, hM_11⟩ := hw_5
    dsimp only at hm_10 hM_11
    obtain ⟨hP1, hK1, hD1⟩ := hB
    rw [ht] at hP1
    obtain ⟨hP, hD⟩ := va_joinP (X := [(h0, .inr (1, [.ref me, .ref sp, .int fa, .int fl, .int fd, .int cr, .int lo, .int so])), (sp, .inl (cI, 33, .inl f)), (me, .inr (0, [.ref pg])), (pg, .inl (cP, 64, .inr (.inr (.inr (.inr g)))))]) (cx := [(me, .inr (0, [.ref pg])), (pg, .inl (cP, 64, .inr (.inr (.inr (.inr g)))))]) (wr := [(h0, .inr (1, [.ref me, .ref sp, .int fa, .int fl, .int fd, .int cr, .int lo, .int so])), (sp, .inl (cI, 33, .inl f))]) (rx := [(me, .inr (0, [.ref pg])), (pg, .inl (cP, 64, .inr (.inr (.inr (.inr g_7)))))]) hP hD [2, 3] [0, 1] rfl rfl (by decide) (by decide) hk1 hFc hP1 hD1
    generalize H1 = H at hP hS ⊢
    have hP : va_P (dC, dI) vwCl ([(h0, .inr (1, [.ref me, .ref sp, .int fa, .int fl, .int fd, .int cr, .int lo, .int so])), (sp, .inl (cI, 33, .inl f)), (me, .inr (0, [.ref pg])), (pg, .inl (cP, 64, .inr (.inr (.inr (.inr g_7)))))] ++ va_pl LP_8 (prow cI r_9)) H := hP
    have hD : va_D A ([(h0, .inr (1, [.ref me, .ref sp, .int fa, .int fl, .int fd, .int cr, .int lo, .int so])), (sp, .inl (cI, 33, .inl f)), (me, .inr (0, [.ref pg])), (pg, .inl (cP, 64, .inr (.inr (.inr (.inr g_7)))))] ++ va_pl LP_8 (prow cI r_9)) := hD
    refine W.widen (k := 1) (n := 256) (by omega) (by omega) ?_
    refine lv_iconst (v := 1) hx hb dX1_poke_18 (by decide) ?_
    exact W.zret (v := 1) hx hb hr rfl (fun t ht hW => ⟨⟨1, (g_7, LP_8, r_9), rfl, ⟨by simp only [s_X1_poke, if_neg c_3], hm_10, fun k hk => by simp only [s_X1_poke, if_neg c_3]; exact hM_11 k hk⟩, by rw [ht]; exact hP, va_K.moved hW.alike hK, hD⟩, hS.F ht⟩) hS.2.2 dX1_poke_19
  · skip
    refine lv_iconst (v := 0) hx hb dX1_poke_7 (by decide) ?_
    refine W.widen (k := 1) (n := 256) (by omega) (by omega) ?_
    exact W.zret (v := 0) hx hb hr rfl (fun t ht hW => ⟨⟨0, (g, LP, r), rfl, ⟨by simp only [s_X1_poke, if_pos c_3], hm, fun k hk => by simp only [s_X1_poke, if_pos c_3]⟩, by rw [ht]; exact hP, va_K.moved hW.alike hK, hD⟩, hS.F ht⟩) hS.2.2 dX1_poke_8
set_option maxRecDepth 100000 in
theorem miX1_store_X1 : ∀ w ∈ u_ws RX1 TX1 8, w ∈ wsX1_store := by decide +kernel
set_option maxRecDepth 100000 in
theorem mbX1_store_1 : (.fieldLink RX1 49 "SoftMaps" "stores" "I" : Cond) ∈ wsX1_store := by decide +kernel
set_option maxRecDepth 100000 in
theorem mbX1_store_2 : (.fieldLink RX1 12 "SoftMaps" "memory" "LSoftMaps$Memory;" : Cond) ∈ wsX1_store := by decide +kernel
def s_X1_store (f M : Nat → Int32) (fa fl fd so : Int32) (v w wd : Int32) : Int32 × (Int32 × Int32 × Int32 × Int32) × (Nat → Int32) :=
  if 0 ≤ (s_X1_probe f fa fl fd v 2 wd).1 then
    if wd = 0 then
      ((s_X1_probe f fa fl fd v 2 wd).1, ((s_X1_probe f fa fl fd v 2 wd).2.1, (s_X1_probe f fa fl fd v 2 wd).2.2.1, (s_X1_probe f fa fl fd v 2 wd).2.2.2, so + 1), s_X0_putByte M ((s_X1_probe f fa fl fd v 2 wd).1) w)
    else
      ((s_X1_probe f fa fl fd v 2 wd).1, ((s_X1_probe f fa fl fd v 2 wd).2.1, (s_X1_probe f fa fl fd v 2 wd).2.2.1, (s_X1_probe f fa fl fd v 2 wd).2.2.2, so + 1), m_put M ((s_X1_probe f fa fl fd v 2 wd).1) w)
  else
    ((-1), ((s_X1_probe f fa fl fd v 2 wd).2.1, (s_X1_probe f fa fl fd v 2 wd).2.2.1, (s_X1_probe f fa fl fd v 2 wd).2.2.2, so), M)
set_option maxHeartbeats 4000000 in
set_option maxRecDepth 100000 in
theorem c_X1_store (l : Launch) (dC : Nat → ClassId) (dI : Nat → Nat → Nat) (sz : Nat) (h0 me sp : Nat) (cI : ClassId) (f : Nat → Int32) (fa fl fd cr lo so : Int32) (pg : Nat) (cP : ClassId) (g : Nat → Option Nat) (LP : List Nat) (r : Nat → Nat → Int32) (v w wd : Int32) (hm : mok g LP) : Met l yX1_store wsX1_store ({ frames := 4, cells := 1, slots := 256, locals := 90 }) (va_Pc [.ref h0, .int v, .int w, .int wd] (fun U => U.heap.size = sz ∧ va_P (dC, dI) vwCl ([(h0, .inr (1, [.ref me, .ref sp, .int fa, .int fl, .int fd, .int cr, .int lo, .int so])), (sp, .inl (cI, 33, .inl f)), (me, .inr (0, [.ref pg])), (pg, .inl (cP, 64, .inr (.inr (.inr (.inr g)))))] ++ va_pl LP (prow cI r)) U.heap ∧ va_K (dC, dI) vwCl [(cI, .int), (cP, .array .int)] U ∧ va_D (fun _ => True) ([(h0, .inr (1, [.ref me, .ref sp, .int fa, .int fl, .int fd, .int cr, .int lo, .int so])), (sp, .inl (cI, 33, .inl f)), (me, .inr (0, [.ref pg])), (pg, .inl (cP, 64, .inr (.inr (.inr (.inr g)))))] ++ va_pl LP (prow cI r)) ∧ ag_O .int U)) (va_Qi (fun (a_ : Int32) (u : (Int32 × Int32 × Int32 × Int32) × (Nat → Option Nat) × List Nat × (Nat → Nat → Int32)) => a_ = (s_X1_store f (mw g r) fa fl fd so v w wd).1 ∧ u.1 = (s_X1_store f (mw g r) fa fl fd so v w wd).2.1 ∧ mok u.2.1 u.2.2.1 ∧ ∀ k, k < 16384 → mw u.2.1 u.2.2.2 k = (s_X1_store f (mw g r) fa fl fd so v w wd).2.2 k) (fun (u : (Int32 × Int32 × Int32 × Int32) × (Nat → Option Nat) × List Nat × (Nat → Nat → Int32)) (t : State) => va_P (dC, dI) vwCl ([(h0, .inr (1, [.ref me, .ref sp, .int u.1.1, .int u.1.2.1, .int u.1.2.2.1, .int cr, .int lo, .int u.1.2.2.2])), (sp, .inl (cI, 33, .inl f)), (me, .inr (0, [.ref pg])), (pg, .inl (cP, 64, .inr (.inr (.inr (.inr u.2.1)))))] ++ va_pl u.2.2.1 (prow cI u.2.2.2)) t.heap ∧ va_K (dC, dI) vwCl [(cI, .int), (cP, .array .int)] t ∧ va_D (va_A ([(h0, .inr (1, [.ref me, .ref sp, .int fa, .int fl, .int fd, .int cr, .int lo, .int so])), (sp, .inl (cI, 33, .inl f)), (me, .inr (0, [.ref pg])), (pg, .inl (cP, 64, .inr (.inr (.inr (.inr g)))))] ++ va_pl LP (prow cI r)) sz) ([(h0, .inr (1, [.ref me, .ref sp, .int u.1.1, .int u.1.2.1, .int u.1.2.2.1, .int cr, .int lo, .int u.1.2.2.2])), (sp, .inl (cI, 33, .inl f)), (me, .inr (0, [.ref pg])), (pg, .inl (cP, 64, .inr (.inr (.inr (.inr u.2.1)))))] ++ va_pl u.2.2.1 (prow cI u.2.2.2))) (va_A ([(h0, .inr (1, [.ref me, .ref sp, .int fa, .int fl, .int fd, .int cr, .int lo, .int so])), (sp, .inl (cI, 33, .inl f)), (me, .inr (0, [.ref pg])), (pg, .inl (cP, 64, .inr (.inr (.inr (.inr g)))))] ++ va_pl LP (prow cI r)) sz)) 1 256 (va_A ([(h0, .inr (1, [.ref me, .ref sp, .int fa, .int fl, .int fd, .int cr, .int lo, .int so])), (sp, .inl (cI, 33, .inl f)), (me, .inr (0, [.ref pg])), (pg, .inl (cP, 64, .inr (.inr (.inr (.inr g)))))] ++ va_pl LP (prow cI r)) sz) := by
  refine Met.ofW (cc := cX1_store) (maxL := 5) (ret := (some .int)) (by decide) rfl ?_
  intro p e s m args below meth c s₁ B hml hv
  obtain ⟨rfl, hsz, hP, hK, hD0, hZ⟩ := hv
  have hx := B.exec
  have hb := B.bytes
  have hr := B.returns
  have hts := atoms_spec (ws := wsX1_store) B.pre
  have hown : s.vm.findClass RX1 = some m.cls := findClass_of_methodNamed B.named
  have hlocks := B.notSynchronized
  subst hsz
  have hD := hD0.self (sz := s.heap.size)
  generalize hAe : va_A ([(h0, .inr (1, [.ref me, .ref sp, .int fa, .int fl, .int fd, .int cr, .int lo, .int so])), (sp, .inl (cI, 33, .inl f)), (me, .inr (0, [.ref pg])), (pg, .inl (cP, 64, .inr (.inr (.inr (.inr g)))))] ++ va_pl LP (prow cI r)) s.heap.size = A at hD ⊢
  have hA : ∀ q : Nat, s.heap.size ≤ q → A q := fun q h => by rw [← hAe]; exact Or.inr h
  have hS : va_S A s.heap s.heap [] := va_S.rf
  have hP : va_P (dC, dI) vwCl ([(h0, .inr (1, [.ref me, .ref sp, .int fa, .int fl, .int fd, .int cr, .int lo, .int so])), (sp, .inl (cI, 33, .inl f)), (me, .inr (0, [.ref pg])), (pg, .inl (cP, 64, .inr (.inr (.inr (.inr g)))))] ++ va_pl LP (prow cI r)) s.heap := hP
  have hl := lv_entry ([.ref h0, .int v, .int w, .int wd]) (n := 5) (Nat.le_of_ble_eq_true rfl)
  rw [lg_entry_eq]
  generalize (lg_sl ([.ref h0, .int v, .int w, .int wd]) ++ List.replicate (5 - (lg_sl ([.ref h0, .int v, .int w, .int wd])).length) Slot.unset).toArray = ls at hl ⊢
  have hl : lv_has ls 5 [(0, .ref h0), (1, .int v), (2, .int w), (3, .int wd)] := hl
  refine lv_aload_n hx hb dX1_store_0 rfl (lv_at hl 0 rfl) ?_
  refine lv_iload_n hx hb dX1_store_1 rfl (lv_at hl 1 rfl) ?_
  refine lv_iconst (v := 2) hx hb dX1_store_2 (by decide) ?_
  refine lv_iload_n hx hb dX1_store_3 rfl (lv_at hl 3 rfl) ?_
  have hPc := hP.sub (ws' := [(h0, .inr (1, [.ref me, .ref sp, .int fa, .int fl, .int fd, .int cr, .int lo, .int so])), (sp, .inl (cI, 33, .inl f))]) [0, 1] rfl
  have hDc := hD.sub (ws' := [(h0, .inr (1, [.ref me, .ref sp, .int fa, .int fl, .int fd, .int cr, .int lo, .int so])), (sp, .inl (cI, 33, .inl f))]) [0, 1] (by decide) rfl
  have hFc := va_free (wc := [(h0, .inr (1, [.ref me, .ref sp, .int fa, .int fl, .int fd, .int cr, .int lo, .int so])), (sp, .inl (cI, 33, .inl f))]) hD hS hA [0, 1] rfl
  have hKc := hK.sub (tys' := [(cI, .int)]) [0] rfl
  refine va_calli (va_runV (As := [.int v, .int 2, .int wd]) (rest := []) ⟨hx, hb, hml, hown, hts⟩ (c_X1_probe l dC dI (s.heap.size) h0 me sp cI f fa fl fd cr lo so v 2 wd) (cwV 3 hts gX1_store_X1_probe rfl rfl rfl (by decide +kernel) ⟨Nat.le_of_ble_eq_true rfl, Nat.le_of_ble_eq_true rfl⟩) ⟨fun a U g mk q => by obtain ⟨q0, q1, qP, qK, qD⟩ := q; exact ⟨q0, q1, qP, va_K.moved (u := U) (U := U.calling g mk a) (Vm.Alike.refl U.vm) qK, qD⟩, va_recv hKc hPc (ci := 1) (q0 := 0) rfl rfl, fun U hU hW => ⟨rfl, by rw [hU], by rw [hU]; exact hPc, va_K.moved hW.alike hKc, hDc.weaken (fun _ _ _ _ => trivial)⟩⟩ rfl rfl hl.1 rfl (lv_room (Nat.le_of_ble_eq_true rfl)) dX1_store_4 ⟨Nat.le_of_ble_eq_true rfl, Nat.le_of_ble_eq_true rfl⟩) hS (fun q _ h => hFc q h) hFc (fun r_1 u_3 t H1 locs ht hvm hw_2 hB hz1 hk1 hS => ?_)
  have e1_ : r_1 = (s_X1_probe f fa fl fd v 2 wd).1 := congrArg Prod.fst hw_2
  have e2_ : u_3 = (s_X1_probe f fa fl fd v 2 wd).2 := congrArg Prod.snd hw_2
  subst e1_ e2_
  obtain ⟨hP1, hK1, hD1⟩ := hB
  rw [ht] at hP1
  obtain ⟨hP, hD⟩ := va_joinQ (X := [(h0, .inr (1, [.ref me, .ref sp, .int fa, .int fl, .int fd, .int cr, .int lo, .int so])), (sp, .inl (cI, 33, .inl f)), (me, .inr (0, [.ref pg])), (pg, .inl (cP, 64, .inr (.inr (.inr (.inr g)))))]) (cx := [(h0, .inr (1, [.ref me, .ref sp, .int fa, .int fl, .int fd, .int cr, .int lo, .int so])), (sp, .inl (cI, 33, .inl f))]) (wr := [(me, .inr (0, [.ref pg])), (pg, .inl (cP, 64, .inr (.inr (.inr (.inr g)))))]) (w1 := [(h0, .inr (1, [.ref me, .ref sp, .int ((s_X1_probe f fa fl fd v 2 wd).2.1), .int ((s_X1_probe f fa fl fd v 2 wd).2.2.1), .int ((s_X1_probe f fa fl fd v 2 wd).2.2.2), .int cr, .int lo, .int so])), (sp, .inl (cI, 33, .inl f))]) hP hD [0, 1] [2, 3] rfl rfl (by decide) (by decide) hk1 hFc hP1 hD1
  generalize H1 = H at hP hS ⊢
  have hP := va_P.part (X := [(me, .inr (0, [.ref pg])), (pg, .inl (cP, 64, .inr (.inr (.inr (.inr g))))), (h0, .inr (1, [.ref me, .ref sp, .int ((s_X1_probe f fa fl fd v 2 wd).2.1), .int ((s_X1_probe f fa fl fd v 2 wd).2.2.1), .int ((s_X1_probe f fa fl fd v 2 wd).2.2.2), .int cr, .int lo, .int so])), (sp, .inl (cI, 33, .inl f))]) (cx := [(h0, .inr (1, [.ref me, .ref sp, .int ((s_X1_probe f fa fl fd v 2 wd).2.1), .int ((s_X1_probe f fa fl fd v 2 wd).2.2.1), .int ((s_X1_probe f fa fl fd v 2 wd).2.2.2), .int cr, .int lo, .int so])), (sp, .inl (cI, 33, .inl f)), (me, .inr (0, [.ref pg])), (pg, .inl (cP, 64, .inr (.inr (.inr (.inr g)))))]) hP [2, 3, 0, 1] rfl
  have hD := va_D.part (X := [(me, .inr (0, [.ref pg])), (pg, .inl (cP, 64, .inr (.inr (.inr (.inr g))))), (h0, .inr (1, [.ref me, .ref sp, .int ((s_X1_probe f fa fl fd v 2 wd).2.1), .int ((s_X1_probe f fa fl fd v 2 wd).2.2.1), .int ((s_X1_probe f fa fl fd v 2 wd).2.2.2), .int cr, .int lo, .int so])), (sp, .inl (cI, 33, .inl f))]) (cx := [(h0, .inr (1, [.ref me, .ref sp, .int ((s_X1_probe f fa fl fd v 2 wd).2.1), .int ((s_X1_probe f fa fl fd v 2 wd).2.2.1), .int ((s_X1_probe f fa fl fd v 2 wd).2.2.2), .int cr, .int lo, .int so])), (sp, .inl (cI, 33, .inl f)), (me, .inr (0, [.ref pg])), (pg, .inl (cP, 64, .inr (.inr (.inr (.inr g)))))]) hD [2, 3, 0, 1] (by decide) rfl
  have hP : va_P (dC, dI) vwCl ([(h0, .inr (1, [.ref me, .ref sp, .int ((s_X1_probe f fa fl fd v 2 wd).2.1), .int ((s_X1_probe f fa fl fd v 2 wd).2.2.1), .int ((s_X1_probe f fa fl fd v 2 wd).2.2.2), .int cr, .int lo, .int so])), (sp, .inl (cI, 33, .inl f)), (me, .inr (0, [.ref pg])), (pg, .inl (cP, 64, .inr (.inr (.inr (.inr g)))))] ++ va_pl LP (prow cI r)) H := hP
  have hD : va_D A ([(h0, .inr (1, [.ref me, .ref sp, .int ((s_X1_probe f fa fl fd v 2 wd).2.1), .int ((s_X1_probe f fa fl fd v 2 wd).2.2.1), .int ((s_X1_probe f fa fl fd v 2 wd).2.2.2), .int cr, .int lo, .int so])), (sp, .inl (cI, 33, .inl f)), (me, .inr (0, [.ref pg])), (pg, .inl (cP, 64, .inr (.inr (.inr (.inr g)))))] ++ va_pl LP (prow cI r)) := hD
  refine lv_istore (lv' := [(4, .int ((s_X1_probe f fa fl fd v 2 wd).1)), (0, .ref h0), (1, .int v), (2, .int w), (3, .int wd)]) hx hb dX1_store_7 hl (by decide) rfl (fun ls hl => ?_)
  refine lv_iload hx hb dX1_store_9 (lv_at hl 0 rfl) ?_
  refine lv_if_ge (tgt := 16) hx hb dX1_store_11 (by decide) (fun c_4 => ?_) (fun c_4 => ?_)
  · skip
    refine lv_aload_n hx hb dX1_store_16 rfl (lv_at hl 1 rfl) ?_
    refine lv_dup hx hb dX1_store_17 rfl ?_
    refine va_get (D := (dC, dI)) (ci := 1) (v := .int so) (C := RX1) (T := TX1) (N := 8) hx hb hts miX1_store_X1 hown hK hP 0 rfl rfl 7 (by decide) (hts _ mbX1_store_1) (fun _ h9 => h9) rfl dX1_store_18 ?_
    refine lv_iconst (v := 1) hx hb dX1_store_21 (by decide) ?_
    refine lv_iadd hx hb dX1_store_22 ?_
    refine va_put (D := (dC, dI)) (ci := 1) (v := .int (so + 1)) (ty := tyX1 7) (C := RX1) (T := TX1) (N := 8) hx hb hts miX1_store_X1 tyX1 tyX1_ok nmX1 hown hK hP hD hS 0 rfl rfl 7 (by decide) (hts _ mbX1_store_1) (fun _ h9 => h9) rfl (by decide +kernel) rfl rfl (Nat.le_of_ble_eq_true rfl) dX1_store_23 (fun H locs hP hD hS => ?_)
    have hP : va_P (dC, dI) vwCl ([(h0, .inr (1, [.ref me, .ref sp, .int ((s_X1_probe f fa fl fd v 2 wd).2.1), .int ((s_X1_probe f fa fl fd v 2 wd).2.2.1), .int ((s_X1_probe f fa fl fd v 2 wd).2.2.2), .int cr, .int lo, .int (so + 1)])), (sp, .inl (cI, 33, .inl f)), (me, .inr (0, [.ref pg])), (pg, .inl (cP, 64, .inr (.inr (.inr (.inr g)))))] ++ va_pl LP (prow cI r)) H := hP
    have hD : va_D A ([(h0, .inr (1, [.ref me, .ref sp, .int ((s_X1_probe f fa fl fd v 2 wd).2.1), .int ((s_X1_probe f fa fl fd v 2 wd).2.2.1), .int ((s_X1_probe f fa fl fd v 2 wd).2.2.2), .int cr, .int lo, .int (so + 1)])), (sp, .inl (cI, 33, .inl f)), (me, .inr (0, [.ref pg])), (pg, .inl (cP, 64, .inr (.inr (.inr (.inr g)))))] ++ va_pl LP (prow cI r)) := hD
    refine lv_iload_n hx hb dX1_store_26 rfl (lv_at hl 4 rfl) ?_
    refine lv_if_eq (tgt := 43) hx hb dX1_store_27 (by decide) (fun c_5 => ?_) (fun c_5 => ?_)
    · skip
      refine lv_aload_n hx hb dX1_store_43 rfl (lv_at hl 1 rfl) ?_
      refine va_get (D := (dC, dI)) (ci := 1) (v := .ref me) (C := RX1) (T := TX1) (N := 8) hx hb hts miX1_store_X1 hown hK hP 0 rfl rfl 0 (by decide) (hts _ mbX1_store_2) (fun _ h9 => h9) rfl dX1_store_44 ?_
      refine lv_iload hx hb dX1_store_47 (lv_at hl 0 rfl) ?_
      refine lv_iload_n hx hb dX1_store_49 rfl (lv_at hl 3 rfl) ?_
      have hPc := va_P.part (X := [(h0, .inr (1, [.ref me, .ref sp, .int ((s_X1_probe f fa fl fd v 2 wd).2.1), .int ((s_X1_probe f fa fl fd v 2 wd).2.2.1), .int ((s_X1_probe f fa fl fd v 2 wd).2.2.2), .int cr, .int lo, .int (so + 1)])), (sp, .inl (cI, 33, .inl f)), (me, .inr (0, [.ref pg])), (pg, .inl (cP, 64, .inr (.inr (.inr (.inr g)))))]) (cx := [(me, .inr (0, [.ref pg])), (pg, .inl (cP, 64, .inr (.inr (.inr (.inr g)))))]) hP [2, 3] rfl
      have hDc := va_D.part (X := [(h0, .inr (1, [.ref me, .ref sp, .int ((s_X1_probe f fa fl fd v 2 wd).2.1), .int ((s_X1_probe f fa fl fd v 2 wd).2.2.1), .int ((s_X1_probe f fa fl fd v 2 wd).2.2.2), .int cr, .int lo, .int (so + 1)])), (sp, .inl (cI, 33, .inl f)), (me, .inr (0, [.ref pg])), (pg, .inl (cP, 64, .inr (.inr (.inr (.inr g)))))]) (cx := [(me, .inr (0, [.ref pg])), (pg, .inl (cP, 64, .inr (.inr (.inr (.inr g)))))]) hD [2, 3] (by decide) rfl
      have hFc := va_freeP (X := [(h0, .inr (1, [.ref me, .ref sp, .int ((s_X1_probe f fa fl fd v 2 wd).2.1), .int ((s_X1_probe f fa fl fd v 2 wd).2.2.1), .int ((s_X1_probe f fa fl fd v 2 wd).2.2.2), .int cr, .int lo, .int (so + 1)])), (sp, .inl (cI, 33, .inl f)), (me, .inr (0, [.ref pg])), (pg, .inl (cP, 64, .inr (.inr (.inr (.inr g)))))]) (cx := [(me, .inr (0, [.ref pg])), (pg, .inl (cP, 64, .inr (.inr (.inr (.inr g)))))]) hD hS hA [2, 3] rfl
      have hKc := hK.sub (tys' := [(cP, .array .int), (cI, .int)]) [1, 0] rfl
      refine va_callv (va_runV (As := [.int ((s_X1_probe f fa fl fd v 2 wd).1), .int w]) (rest := []) ⟨hx, hb, hml, hown, hts⟩ (c_X0_putByte l dC dI (H.size) me pg cP cI g LP r ((s_X1_probe f fa fl fd v 2 wd).1) w hm) (cwV 2 hts gX1_store_X0_putByte rfl rfl rfl (by decide +kernel) ⟨Nat.le_of_ble_eq_true rfl, Nat.le_of_ble_eq_true rfl⟩) ⟨fun a U g mk q => by obtain ⟨q0, q1, qP, qK, qD, q7⟩ := q; exact ⟨q0, q1, qP, va_K.moved (u := U) (U := U.calling g mk a) (Vm.Alike.refl U.vm) qK, qD, ag_O.moved (Vm.Alike.refl U.vm) q7⟩, va_recv hKc hPc (ci := 0) (q0 := 0) rfl rfl, fun U hU hW => ⟨rfl, by rw [hU], by rw [hU]; exact hPc, va_K.moved hW.alike hKc, hDc.weaken (fun _ _ _ _ => trivial), hZ.moved hW.alike⟩⟩ rfl rfl hl.1 rfl (lv_room (Nat.le_of_ble_eq_true rfl)) dX1_store_50 ⟨Nat.le_of_ble_eq_true rfl, Nat.le_of_ble_eq_true rfl⟩) hS (fun q _ h => hFc q h) hFc (fun u_8 t H1 locs ht hvm hw_7 hB hz1 hk1 hS => ?_)
      obtain ⟨g_9, LP_10, r_11⟩ := u_8
      obtain ⟨hm_12, hM_13⟩ := hw_7
      dsimp only at hm_12 hM_13
      obtain ⟨hP1, hK1, hD1⟩ := hB
      rw [ht] at hP1
      obtain ⟨hP, hD⟩ := va_joinP (X := [(h0, .inr (1, [.ref me, .ref sp, .int ((s_X1_probe f fa fl fd v 2 wd).2.1), .int ((s_X1_probe f fa fl fd v 2 wd).2.2.1), .int ((s_X1_probe f fa fl fd v 2 wd).2.2.2), .int cr, .int lo, .int (so + 1)])), (sp, .inl (cI, 33, .inl f)), (me, .inr (0, [.ref pg])), (pg, .inl (cP, 64, .inr (.inr (.inr (.inr g)))))]) (cx := [(me, .inr (0, [.ref pg])), (pg, .inl (cP, 64, .inr (.inr (.inr (.inr g)))))]) (wr := [(h0, .inr (1, [.ref me, .ref sp, .int ((s_X1_probe f fa fl fd v 2 wd).2.1), .int ((s_X1_probe f fa fl fd v 2 wd).2.2.1), .int ((s_X1_probe f fa fl fd v 2 wd).2.2.2), .int cr, .int lo, .int (so + 1)])), (sp, .inl (cI, 33, .inl f))]) (rx := [(me, .inr (0, [.ref pg])), (pg, .inl (cP, 64, .inr (.inr (.inr (.inr g_9)))))]) hP hD [2, 3] [0, 1] rfl rfl (by decide) (by decide) hk1 hFc hP1 hD1
      generalize H1 = H at hP hS ⊢
      have hP : va_P (dC, dI) vwCl ([(h0, .inr (1, [.ref me, .ref sp, .int ((s_X1_probe f fa fl fd v 2 wd).2.1), .int ((s_X1_probe f fa fl fd v 2 wd).2.2.1), .int ((s_X1_probe f fa fl fd v 2 wd).2.2.2), .int cr, .int lo, .int (so + 1)])), (sp, .inl (cI, 33, .inl f)), (me, .inr (0, [.ref pg])), (pg, .inl (cP, 64, .inr (.inr (.inr (.inr g_9)))))] ++ va_pl LP_10 (prow cI r_11)) H := hP
      have hD : va_D A ([(h0, .inr (1, [.ref me, .ref sp, .int ((s_X1_probe f fa fl fd v 2 wd).2.1), .int ((s_X1_probe f fa fl fd v 2 wd).2.2.1), .int ((s_X1_probe f fa fl fd v 2 wd).2.2.2), .int cr, .int lo, .int (so + 1)])), (sp, .inl (cI, 33, .inl f)), (me, .inr (0, [.ref pg])), (pg, .inl (cP, 64, .inr (.inr (.inr (.inr g_9)))))] ++ va_pl LP_10 (prow cI r_11)) := hD
      refine W.widen (k := 1) (n := 256) (by omega) (by omega) ?_
      refine lv_iload hx hb dX1_store_53 (lv_at hl 0 rfl) ?_
      exact W.iret (v := (s_X1_probe f fa fl fd v 2 wd).1) hx hb hr (fun t ht hW => ⟨⟨(s_X1_probe f fa fl fd v 2 wd).1, (((s_X1_probe f fa fl fd v 2 wd).2.1, (s_X1_probe f fa fl fd v 2 wd).2.2.1, (s_X1_probe f fa fl fd v 2 wd).2.2.2, so + 1), g_9, LP_10, r_11), rfl, ⟨by simp only [s_X1_store, if_pos c_4, if_pos c_5], by simp only [s_X1_store, if_pos c_4, if_pos c_5], hm_12, fun k hk => by simp only [s_X1_store, if_pos c_4, if_pos c_5]; exact hM_13 k hk⟩, by rw [ht]; exact hP, va_K.moved hW.alike hK, hD⟩, hS.F ht⟩) hS.2.2 dX1_store_55
    · skip
      refine lv_aload_n hx hb dX1_store_30 rfl (lv_at hl 1 rfl) ?_
      refine va_get (D := (dC, dI)) (ci := 1) (v := .ref me) (C := RX1) (T := TX1) (N := 8) hx hb hts miX1_store_X1 hown hK hP 0 rfl rfl 0 (by decide) (hts _ mbX1_store_2) (fun _ h9 => h9) rfl dX1_store_31 ?_
      refine lv_iload hx hb dX1_store_34 (lv_at hl 0 rfl) ?_
      refine lv_iload_n hx hb dX1_store_36 rfl (lv_at hl 3 rfl) ?_
      have hPc := va_P.part (X := [(h0, .inr (1, [.ref me, .ref sp, .int ((s_X1_probe f fa fl fd v 2 wd).2.1), .int ((s_X1_probe f fa fl fd v 2 wd).2.2.1), .int ((s_X1_probe f fa fl fd v 2 wd).2.2.2), .int cr, .int lo, .int (so + 1)])), (sp, .inl (cI, 33, .inl f)), (me, .inr (0, [.ref pg])), (pg, .inl (cP, 64, .inr (.inr (.inr (.inr g)))))]) (cx := [(me, .inr (0, [.ref pg])), (pg, .inl (cP, 64, .inr (.inr (.inr (.inr g)))))]) hP [2, 3] rfl
      have hDc := va_D.part (X := [(h0, .inr (1, [.ref me, .ref sp, .int ((s_X1_probe f fa fl fd v 2 wd).2.1), .int ((s_X1_probe f fa fl fd v 2 wd).2.2.1), .int ((s_X1_probe f fa fl fd v 2 wd).2.2.2), .int cr, .int lo, .int (so + 1)])), (sp, .inl (cI, 33, .inl f)), (me, .inr (0, [.ref pg])), (pg, .inl (cP, 64, .inr (.inr (.inr (.inr g)))))]) (cx := [(me, .inr (0, [.ref pg])), (pg, .inl (cP, 64, .inr (.inr (.inr (.inr g)))))]) hD [2, 3] (by decide) rfl
      have hFc := va_freeP (X := [(h0, .inr (1, [.ref me, .ref sp, .int ((s_X1_probe f fa fl fd v 2 wd).2.1), .int ((s_X1_probe f fa fl fd v 2 wd).2.2.1), .int ((s_X1_probe f fa fl fd v 2 wd).2.2.2), .int cr, .int lo, .int (so + 1)])), (sp, .inl (cI, 33, .inl f)), (me, .inr (0, [.ref pg])), (pg, .inl (cP, 64, .inr (.inr (.inr (.inr g)))))]) (cx := [(me, .inr (0, [.ref pg])), (pg, .inl (cP, 64, .inr (.inr (.inr (.inr g)))))]) hD hS hA [2, 3] rfl
      have hKc := hK.sub (tys' := [(cP, .array .int), (cI, .int)]) [1, 0] rfl
      refine va_callv (va_runV (As := [.int ((s_X1_probe f fa fl fd v 2 wd).1), .int w]) (rest := []) ⟨hx, hb, hml, hown, hts⟩ (c_X0_putWord l dC dI (H.size) me pg cP cI g LP r ((s_X1_probe f fa fl fd v 2 wd).1) w hm) (cwV 2 hts gX1_store_X0_putWord rfl rfl rfl (by decide +kernel) ⟨Nat.le_of_ble_eq_true rfl, Nat.le_of_ble_eq_true rfl⟩) ⟨fun a U g mk q => by obtain ⟨q0, q1, qP, qK, qD, q7⟩ := q; exact ⟨q0, q1, qP, va_K.moved (u := U) (U := U.calling g mk a) (Vm.Alike.refl U.vm) qK, qD, ag_O.moved (Vm.Alike.refl U.vm) q7⟩, va_recv hKc hPc (ci := 0) (q0 := 0) rfl rfl, fun U hU hW => ⟨rfl, by rw [hU], by rw [hU]; exact hPc, va_K.moved hW.alike hKc, hDc.weaken (fun _ _ _ _ => trivial), hZ.moved hW.alike⟩⟩ rfl rfl hl.1 rfl (lv_room (Nat.le_of_ble_eq_true rfl)) dX1_store_37 ⟨Nat.le_of_ble_eq_true rfl, Nat.le_of_ble_eq_true rfl⟩) hS (fun q _ h => hFc q h) hFc (fun u_16 t H1 locs ht hvm hw_15 hB hz1 hk1 hS => ?_)
      obtain ⟨g_17, LP_18, r_19⟩ := u_16
      obtain ⟨hm_20, hM_21⟩ := hw_15
      dsimp only at hm_20 hM_21
      obtain ⟨hP1, hK1, hD1⟩ := hB
      rw [ht] at hP1
      obtain ⟨hP, hD⟩ := va_joinP (X := [(h0, .inr (1, [.ref me, .ref sp, .int ((s_X1_probe f fa fl fd v 2 wd).2.1), .int ((s_X1_probe f fa fl fd v 2 wd).2.2.1), .int ((s_X1_probe f fa fl fd v 2 wd).2.2.2), .int cr, .int lo, .int (so + 1)])), (sp, .inl (cI, 33, .inl f)), (me, .inr (0, [.ref pg])), (pg, .inl (cP, 64, .inr (.inr (.inr (.inr g)))))]) (cx := [(me, .inr (0, [.ref pg])), (pg, .inl (cP, 64, .inr (.inr (.inr (.inr g)))))]) (wr := [(h0, .inr (1, [.ref me, .ref sp, .int ((s_X1_probe f fa fl fd v 2 wd).2.1), .int ((s_X1_probe f fa fl fd v 2 wd).2.2.1), .int ((s_X1_probe f fa fl fd v 2 wd).2.2.2), .int cr, .int lo, .int (so + 1)])), (sp, .inl (cI, 33, .inl f))]) (rx := [(me, .inr (0, [.ref pg])), (pg, .inl (cP, 64, .inr (.inr (.inr (.inr g_17)))))]) hP hD [2, 3] [0, 1] rfl rfl (by decide) (by decide) hk1 hFc hP1 hD1
      generalize H1 = H at hP hS ⊢
      have hP : va_P (dC, dI) vwCl ([(h0, .inr (1, [.ref me, .ref sp, .int ((s_X1_probe f fa fl fd v 2 wd).2.1), .int ((s_X1_probe f fa fl fd v 2 wd).2.2.1), .int ((s_X1_probe f fa fl fd v 2 wd).2.2.2), .int cr, .int lo, .int (so + 1)])), (sp, .inl (cI, 33, .inl f)), (me, .inr (0, [.ref pg])), (pg, .inl (cP, 64, .inr (.inr (.inr (.inr g_17)))))] ++ va_pl LP_18 (prow cI r_19)) H := hP
      have hD : va_D A ([(h0, .inr (1, [.ref me, .ref sp, .int ((s_X1_probe f fa fl fd v 2 wd).2.1), .int ((s_X1_probe f fa fl fd v 2 wd).2.2.1), .int ((s_X1_probe f fa fl fd v 2 wd).2.2.2), .int cr, .int lo, .int (so + 1)])), (sp, .inl (cI, 33, .inl f)), (me, .inr (0, [.ref pg])), (pg, .inl (cP, 64, .inr (.inr (.inr (.inr g_17)))))] ++ va_pl LP_18 (prow cI r_19)) := hD
      refine W.widen (k := 1) (n := 256) (by omega) (by omega) ?_
      refine lv_goto (tgt := 53) hx hb dX1_store_40 (by decide) ?_
      refine lv_iload hx hb dX1_store_53 (lv_at hl 0 rfl) ?_
      exact W.iret (v := (s_X1_probe f fa fl fd v 2 wd).1) hx hb hr (fun t ht hW => ⟨⟨(s_X1_probe f fa fl fd v 2 wd).1, (((s_X1_probe f fa fl fd v 2 wd).2.1, (s_X1_probe f fa fl fd v 2 wd).2.2.1, (s_X1_probe f fa fl fd v 2 wd).2.2.2, so + 1), g_17, LP_18, r_19), rfl, ⟨by simp only [s_X1_store, if_pos c_4, if_neg c_5], by simp only [s_X1_store, if_pos c_4, if_neg c_5], hm_20, fun k hk => by simp only [s_X1_store, if_pos c_4, if_neg c_5]; exact hM_21 k hk⟩, by rw [ht]; exact hP, va_K.moved hW.alike hK, hD⟩, hS.F ht⟩) hS.2.2 dX1_store_55
  · skip
    refine lv_iconst (v := (-1)) hx hb dX1_store_14 (by decide) ?_
    refine W.widen (k := 1) (n := 256) (by omega) (by omega) ?_
    exact W.iret (v := (-1)) hx hb hr (fun t ht hW => ⟨⟨(-1), (((s_X1_probe f fa fl fd v 2 wd).2.1, (s_X1_probe f fa fl fd v 2 wd).2.2.1, (s_X1_probe f fa fl fd v 2 wd).2.2.2, so), g, LP, r), rfl, ⟨by simp only [s_X1_store, if_neg c_4], by simp only [s_X1_store, if_neg c_4], hm, fun k hk => by simp only [s_X1_store, if_neg c_4]⟩, by rw [ht]; exact hP, va_K.moved hW.alike hK, hD⟩, hS.F ht⟩) hS.2.2 dX1_store_15
