set_option maxRecDepth 100000 in
theorem mbX0_init_0 : (.methodLink RX0 3 objectInit : Cond) ∈ wsX0_init := by decide +kernel
set_option maxRecDepth 100000 in
theorem mbX0_init_1 : (.instanceMethod objectInit : Cond) ∈ wsX0_init := by decide +kernel
set_option maxRecDepth 100000 in
theorem mbX0_init_2 : (.code objectInit ⟨#[0xb1]⟩ 1 none : Cond) ∈ wsX0_init := List.mem_of_getElem? (i := 3) rfl
set_option maxRecDepth 100000 in
theorem mbX0_init_3 : (.classLink RX0 9 "[I" : Cond) ∈ wsX0_init := by decide +kernel
set_option maxRecDepth 100000 in
theorem miX0_init_X0 : ∀ w ∈ u_ws RX0 TX0 1, w ∈ wsX0_init := by decide +kernel
set_option maxRecDepth 100000 in
theorem mbX0_init_5 : (.fieldLink RX0 11 "SoftMaps$Memory" "pages" "[[I" : Cond) ∈ wsX0_init := by decide +kernel
set_option maxHeartbeats 4000000 in
set_option maxRecDepth 100000 in
theorem c_X0_init (l : Launch) (dC : Nat → ClassId) (dI : Nat → Nat → Nat) (sz : Nat) (me : Nat)  : Met l yX0_init wsX0_init ({ frames := 1, cells := 1, slots := 64, locals := 12 }) (va_Pc [.ref me] (fun U => U.heap.size = sz ∧ va_P (dC, dI) vwCl [(me, .inr (0, [.null]))] U.heap ∧ va_K (dC, dI) vwCl [] U ∧ va_D (fun _ => True) [(me, .inr (0, [.null]))] ∧ ag_O .int U)) (va_Qv (fun u : Nat × ClassId => True) (fun (u : Nat × ClassId) (t : State) => va_P (dC, dI) vwCl [(me, .inr (0, [.ref u.1])), (u.1, .inl (u.2, 64, .inr (.inr (.inr (.inr (fun _ => none))))))] t.heap ∧ va_K (dC, dI) vwCl [(u.2, .array .int)] t ∧ va_D (va_A [(me, .inr (0, [.null]))] sz) [(me, .inr (0, [.ref u.1])), (u.1, .inl (u.2, 64, .inr (.inr (.inr (.inr (fun _ => none))))))]) (va_A [(me, .inr (0, [.null]))] sz)) 1 64 (va_A [(me, .inr (0, [.null]))] sz) := by
  refine Met.ofW (cc := cX0_init) (maxL := 1) (ret := none) (by decide) rfl ?_
  intro p e s m args below meth c s₁ B hml hv
  obtain ⟨rfl, hsz, hP, hK, hD0, hZ⟩ := hv
  have hx := B.exec
  have hb := B.bytes
  have hr := B.returns
  have hts := atoms_spec (ws := wsX0_init) B.pre
  have hown : s.vm.findClass RX0 = some m.cls := findClass_of_methodNamed B.named
  have hlocks := B.notSynchronized
  have hin : meth.name = "<init>" := (name_of_methodNamed B.named B.method).1
  subst hsz
  have hD := hD0.self (sz := s.heap.size)
  generalize hAe : va_A [(me, .inr (0, [.null]))] s.heap.size = A at hD ⊢
  have hA : ∀ q : Nat, s.heap.size ≤ q → A q := fun q h => by rw [← hAe]; exact Or.inr h
  have hS : va_S A s.heap s.heap [] := va_S.rf
  have hP : va_P (dC, dI) vwCl [(me, .inr (0, [.null]))] s.heap := hP
  have hl := lv_entry ([.ref me]) (n := 1) (Nat.le_of_ble_eq_true rfl)
  rw [lg_entry_eq]
  generalize (lg_sl ([.ref me]) ++ List.replicate (1 - (lg_sl ([.ref me])).length) Slot.unset).toArray = ls at hl ⊢
  have hl : lv_has ls 1 [(0, .ref me)] := hl
  refine lv_aload_n hx hb dX0_init_0 rfl (lv_at hl 0 rfl) ?_
  refine W.objInit hx hb hown (hts _ mbX0_init_0) (hts _ mbX0_init_1) (hts _ mbX0_init_2) rfl (by rw [hml]; exact hl.1) rfl dX0_init_1 (Nat.le_of_ble_eq_true rfl) (Nat.le_of_ble_eq_true rfl) ?_
  refine W.eq (g2 := F0 m 4 ls []) rfl ?_
  refine lv_aload_n hx hb dX0_init_4 rfl (lv_at hl 0 rfl) ?_
  refine lv_bipush (v := 64) hx hb dX0_init_5 (by decide) ?_
  refine ag_new (t := .int) (N' := 64) (n := 64) hx hb hown (ag_cl (show (FieldType.array .int).toString = "[I" by decide +kernel) (hts _ mbX0_init_3)) hZ hK hP hD hS hA (by decide) (by decide +kernel) (by decide) (Nat.le_of_ble_eq_true rfl) (Nat.le_of_ble_eq_true rfl) dX0_init_7 (fun q_1 cP_2 H hK hP hD hS => ?_)
  have hP : va_P (dC, dI) vwCl [(me, .inr (0, [.null])), (q_1, .inl (cP_2, 64, .inr (.inr (.inr (.inr (fun _ => none))))))] H := hP
  have hD : va_D A [(me, .inr (0, [.null])), (q_1, .inl (cP_2, 64, .inr (.inr (.inr (.inr (fun _ => none))))))] := hD
  have hK : va_K (dC, dI) vwCl [(cP_2, .array .int)] s := hK
  refine W.widen (k := 1) (n := 64) (by omega) (by omega) ?_
  refine va_putF (D := (dC, dI)) (ci := 0) (v := .ref q_1) (ty := tyX0 0) (C := RX0) (T := TX0) (N := 1) hx hb hts miX0_init_X0 tyX0 tyX0_ok nmX0 hown hK hP hD hS 0 rfl rfl 0 (by decide) (hts _ mbX0_init_5) (fun _ h9 => h9) rfl hin rfl (by decide +kernel) rfl rfl (Nat.le_of_ble_eq_true rfl) dX0_init_10 (fun H locs hP hD hS => ?_)
  have hP : va_P (dC, dI) vwCl [(me, .inr (0, [.ref q_1])), (q_1, .inl (cP_2, 64, .inr (.inr (.inr (.inr (fun _ => none))))))] H := hP
  have hD : va_D A [(me, .inr (0, [.ref q_1])), (q_1, .inl (cP_2, 64, .inr (.inr (.inr (.inr (fun _ => none))))))] := hD
  exact W.vret hx hb hr (fun t ht hW => ⟨⟨(q_1, cP_2), rfl, trivial, by rw [ht]; exact hP, va_K.moved hW.alike hK, hD⟩, hS.F ht⟩) hS.2.2 dX0_init_13
set_option maxRecDepth 100000 in
theorem mbX1_init_0 : (.methodLink RX1 3 objectInit : Cond) ∈ wsX1_init := by decide +kernel
set_option maxRecDepth 100000 in
theorem mbX1_init_1 : (.instanceMethod objectInit : Cond) ∈ wsX1_init := by decide +kernel
set_option maxRecDepth 100000 in
theorem mbX1_init_2 : (.code objectInit ⟨#[0xb1]⟩ 1 none : Cond) ∈ wsX1_init := List.mem_of_getElem? (i := 3) rfl
set_option maxRecDepth 100000 in
theorem miX1_init_X0 : ∀ w ∈ u_ws RX0 TX0 1, w ∈ wsX1_init := by decide +kernel
set_option maxRecDepth 100000 in
theorem mbX1_init_4 : (.classLink RX1 9 RX0 : Cond) ∈ wsX1_init := by decide +kernel
set_option maxRecDepth 100000 in
theorem mbX1_init_5 : (.instantiable RX0 1 : Cond) ∈ wsX1_init := by decide +kernel
set_option maxRecDepth 100000 in
theorem mbX1_init_6 : (.initialized RX0 : Cond) ∈ wsX1_init := by decide +kernel
set_option maxRecDepth 100000 in
theorem mbX1_init_7 : (.instanceMethod yX0_init : Cond) ∈ wsX1_init := by decide +kernel
set_option maxRecDepth 100000 in
theorem miX1_init_X1 : ∀ w ∈ u_ws RX1 TX1 8, w ∈ wsX1_init := by decide +kernel
set_option maxRecDepth 100000 in
theorem mbX1_init_9 : (.fieldLink RX1 12 "SoftMaps" "memory" "LSoftMaps$Memory;" : Cond) ∈ wsX1_init := by decide +kernel
set_option maxRecDepth 100000 in
theorem mbX1_init_10 : (.arrayClass .int : Cond) ∈ wsX1_init := by decide +kernel
set_option maxRecDepth 100000 in
theorem mbX1_init_11 : (.fieldLink RX1 16 "SoftMaps" "specials" "[I" : Cond) ∈ wsX1_init := by decide +kernel
set_option maxHeartbeats 4000000 in
set_option maxRecDepth 100000 in
theorem c_X1_init (l : Launch) (dC : Nat → ClassId) (dI : Nat → Nat → Nat) (sz : Nat) (h0 : Nat)  : Met l yX1_init wsX1_init ({ frames := 2, cells := 3, slots := 98, locals := 32 }) (va_Pc [.ref h0] (fun U => U.heap.size = sz ∧ va_P (dC, dI) vwCl [(h0, .inr (1, [.null, .null, .int 0, .int 0, .int 0, .int 0, .int 0, .int 0]))] U.heap ∧ va_K (dC, dI) vwCl [] U ∧ va_D (fun _ => True) [(h0, .inr (1, [.null, .null, .int 0, .int 0, .int 0, .int 0, .int 0, .int 0]))] ∧ ag_O .int U ∧ va_Nw (.methodLinkNest RX1 11 yX0_init "SoftMaps") U)) (va_Qv (fun u : Nat × Nat × ClassId × Nat × ClassId => True) (fun (u : Nat × Nat × ClassId × Nat × ClassId) (t : State) => va_P (dC, dI) vwCl [(h0, .inr (1, [.ref u.1, .ref u.2.2.2.1, .int 0, .int 0, .int 0, .int 0, .int 0, .int 0])), (u.2.2.2.1, .inl (u.2.2.2.2, 33, .inl (fun _ => 0))), (u.1, .inr (0, [.ref u.2.1])), (u.2.1, .inl (u.2.2.1, 64, .inr (.inr (.inr (.inr (fun _ => none))))))] t.heap ∧ va_K (dC, dI) vwCl [(u.2.2.2.2, .int), (u.2.2.1, .array .int)] t ∧ va_D (va_A [(h0, .inr (1, [.null, .null, .int 0, .int 0, .int 0, .int 0, .int 0, .int 0]))] sz) [(h0, .inr (1, [.ref u.1, .ref u.2.2.2.1, .int 0, .int 0, .int 0, .int 0, .int 0, .int 0])), (u.2.2.2.1, .inl (u.2.2.2.2, 33, .inl (fun _ => 0))), (u.1, .inr (0, [.ref u.2.1])), (u.2.1, .inl (u.2.2.1, 64, .inr (.inr (.inr (.inr (fun _ => none))))))]) (va_A [(h0, .inr (1, [.null, .null, .int 0, .int 0, .int 0, .int 0, .int 0, .int 0]))] sz)) 3 98 (va_A [(h0, .inr (1, [.null, .null, .int 0, .int 0, .int 0, .int 0, .int 0, .int 0]))] sz) := by
  refine Met.ofW (cc := cX1_init) (maxL := 1) (ret := none) (by decide) rfl ?_
  intro p e s m args below meth c s₁ B hml hv
  obtain ⟨rfl, hsz, hP, hK, hD0, hZ, hN⟩ := hv
  have hx := B.exec
  have hb := B.bytes
  have hr := B.returns
  have hts := atoms_spec (ws := wsX1_init) B.pre
  have hown : s.vm.findClass RX1 = some m.cls := findClass_of_methodNamed B.named
  have hlocks := B.notSynchronized
  have hin : meth.name = "<init>" := (name_of_methodNamed B.named B.method).1
  subst hsz
  have hD := hD0.self (sz := s.heap.size)
  generalize hAe : va_A [(h0, .inr (1, [.null, .null, .int 0, .int 0, .int 0, .int 0, .int 0, .int 0]))] s.heap.size = A at hD ⊢
  have hA : ∀ q : Nat, s.heap.size ≤ q → A q := fun q h => by rw [← hAe]; exact Or.inr h
  have hS : va_S A s.heap s.heap [] := va_S.rf
  have hP : va_P (dC, dI) vwCl [(h0, .inr (1, [.null, .null, .int 0, .int 0, .int 0, .int 0, .int 0, .int 0]))] s.heap := hP
  have hl := lv_entry ([.ref h0]) (n := 1) (Nat.le_of_ble_eq_true rfl)
  rw [lg_entry_eq]
  generalize (lg_sl ([.ref h0]) ++ List.replicate (1 - (lg_sl ([.ref h0])).length) Slot.unset).toArray = ls at hl ⊢
  have hl : lv_has ls 1 [(0, .ref h0)] := hl
  refine lv_aload_n hx hb dX1_init_0 rfl (lv_at hl 0 rfl) ?_
  refine W.objInit hx hb hown (hts _ mbX1_init_0) (hts _ mbX1_init_1) (hts _ mbX1_init_2) rfl (by rw [hml]; exact hl.1) rfl dX1_init_1 (Nat.le_of_ble_eq_true rfl) (Nat.le_of_ble_eq_true rfl) ?_
  refine W.eq (g2 := F0 m 4 ls []) rfl ?_
  refine lv_aload_n hx hb dX1_init_4 rfl (lv_at hl 0 rfl) ?_
  refine va_new (ci := 0) (fs := [.null]) (C := RX0) (T := TX0) (N := 1) hx hb hts miX1_init_X0 tyX0 tyX0_ok hown (hts _ mbX1_init_4) (hts _ mbX1_init_5) (hts _ mbX1_init_6) hK hP hD hS hA rfl (fun j hj => by rcases (show j = 0 by omega) with rfl <;> rfl) (Nat.le_of_ble_eq_true rfl) (Nat.le_of_ble_eq_true rfl) dX1_init_5 (fun q_1 H hP hD hS => ?_)
  have hP : va_P (dC, dI) vwCl [(h0, .inr (1, [.null, .null, .int 0, .int 0, .int 0, .int 0, .int 0, .int 0])), (q_1, .inr (0, [.null]))] H := hP
  have hD : va_D A [(h0, .inr (1, [.null, .null, .int 0, .int 0, .int 0, .int 0, .int 0, .int 0])), (q_1, .inr (0, [.null]))] := hD
  refine W.widen (k := 1) (n := 1) (by omega) (by omega) ?_
  refine lv_dup hx hb dX1_init_8 rfl ?_
  have hPc := hP.sub (ws' := [(q_1, .inr (0, [.null]))]) [1] rfl
  have hDc := hD.sub (ws' := [(q_1, .inr (0, [.null]))]) [1] (by decide) rfl
  have hFc := va_free (wc := [(q_1, .inr (0, [.null]))]) hD hS hA [1] rfl
  have hKc := hK.sub (tys' := []) [] rfl
  refine va_callv (va_runIN (As := []) (rest := [.ref q_1, .ref h0]) ⟨hx, hb, hml, hown, hts⟩ (c_X0_init l dC dI (H.size) q_1) (⟨va_cnB 0 hts ggX1_init_X0_init rfl rfl rfl hN (hts _ mbX1_init_6) (by decide +kernel) ⟨Nat.le_of_ble_eq_true rfl, Nat.le_of_ble_eq_true rfl⟩, rfl, hts _ mbX1_init_7⟩) ⟨fun a U g mk q => by obtain ⟨q0, q1, qP, qK, qD, q7⟩ := q; exact ⟨q0, q1, qP, va_K.moved (u := U) (U := U.calling g mk a) (Vm.Alike.refl U.vm) qK, qD, ag_O.moved (Vm.Alike.refl U.vm) q7⟩, fun U hU hW => ⟨rfl, by rw [hU], by rw [hU]; exact hPc, va_K.moved hW.alike hKc, hDc.weaken (fun _ _ _ _ => trivial), hZ.moved hW.alike⟩⟩ rfl rfl hl.1 rfl (lv_room (Nat.le_of_ble_eq_true rfl)) dX1_init_9 ⟨Nat.le_of_ble_eq_true rfl, Nat.le_of_ble_eq_true rfl⟩) hS (fun q _ h => hFc q h) hFc (fun u_4 t H1 locs ht hvm hw_3 hB hz1 hk1 hS => ?_)
  obtain ⟨pg_, cP_⟩ := u_4
  obtain ⟨hP1, hK1, hD1⟩ := hB
  rw [ht] at hP1
  obtain ⟨hP, hD⟩ := va_join (wr := [(h0, .inr (1, [.null, .null, .int 0, .int 0, .int 0, .int 0, .int 0, .int 0]))]) (w1 := [(q_1, .inr (0, [.ref pg_])), (pg_, .inl (cP_, 64, .inr (.inr (.inr (.inr (fun _ => none))))))]) hP hD [1] [0] rfl rfl (by decide) (by decide) hk1 hFc hP1 hD1
  generalize H1 = H at hP hS ⊢
  have hK := hK.app ((va_K.moved hvm.symm hK1).sub (tys' := [(cP_, .array .int)]) [0] rfl)
  have hK : va_K (dC, dI) vwCl [(cP_, .array .int)] s := hK
  have hP : va_P (dC, dI) vwCl [(h0, .inr (1, [.null, .null, .int 0, .int 0, .int 0, .int 0, .int 0, .int 0])), (q_1, .inr (0, [.ref pg_])), (pg_, .inl (cP_, 64, .inr (.inr (.inr (.inr (fun _ => none))))))] H := hP
  have hD : va_D A [(h0, .inr (1, [.null, .null, .int 0, .int 0, .int 0, .int 0, .int 0, .int 0])), (q_1, .inr (0, [.ref pg_])), (pg_, .inl (cP_, 64, .inr (.inr (.inr (.inr (fun _ => none))))))] := hD
  refine W.widen (k := 2) (n := 65) (by omega) (by omega) ?_
  refine va_putF (D := (dC, dI)) (ci := 1) (v := .ref q_1) (ty := tyX1 0) (C := RX1) (T := TX1) (N := 8) hx hb hts miX1_init_X1 tyX1 tyX1_ok nmX1 hown hK hP hD hS 0 rfl rfl 0 (by decide) (hts _ mbX1_init_9) (fun _ h9 => h9) rfl hin rfl (by decide +kernel) rfl rfl (Nat.le_of_ble_eq_true rfl) dX1_init_12 (fun H locs hP hD hS => ?_)
  have hP : va_P (dC, dI) vwCl [(h0, .inr (1, [.ref q_1, .null, .int 0, .int 0, .int 0, .int 0, .int 0, .int 0])), (q_1, .inr (0, [.ref pg_])), (pg_, .inl (cP_, 64, .inr (.inr (.inr (.inr (fun _ => none))))))] H := hP
  have hD : va_D A [(h0, .inr (1, [.ref q_1, .null, .int 0, .int 0, .int 0, .int 0, .int 0, .int 0])), (q_1, .inr (0, [.ref pg_])), (pg_, .inl (cP_, 64, .inr (.inr (.inr (.inr (fun _ => none))))))] := hD
  refine lv_aload_n hx hb dX1_init_15 rfl (lv_at hl 0 rfl) ?_
  refine lv_bipush (v := 33) hx hb dX1_init_16 (by decide) ?_
  refine va_newa (atype := .int) (N' := 33) (a0 := (33, .inl (fun _ => 0))) (ty := .int) (n := 33) hx hb (hts _ mbX1_init_10) rfl hK hP hD hS hA (fun _ => rfl) (by decide) (by decide +kernel) (by decide) (Nat.le_of_ble_eq_true rfl) (Nat.le_of_ble_eq_true rfl) dX1_init_18 (fun q_5 cA_6 H hK hP hD hS => ?_)
  have hP : va_P (dC, dI) vwCl [(h0, .inr (1, [.ref q_1, .null, .int 0, .int 0, .int 0, .int 0, .int 0, .int 0])), (q_1, .inr (0, [.ref pg_])), (pg_, .inl (cP_, 64, .inr (.inr (.inr (.inr (fun _ => none)))))), (q_5, .inl (cA_6, 33, .inl (fun _ => 0)))] H := hP
  have hD : va_D A [(h0, .inr (1, [.ref q_1, .null, .int 0, .int 0, .int 0, .int 0, .int 0, .int 0])), (q_1, .inr (0, [.ref pg_])), (pg_, .inl (cP_, 64, .inr (.inr (.inr (.inr (fun _ => none)))))), (q_5, .inl (cA_6, 33, .inl (fun _ => 0)))] := hD
  have hK : va_K (dC, dI) vwCl [(cP_, .array .int), (cA_6, .int)] s := hK
  refine W.widen (k := 3) (n := 98) (by omega) (by omega) ?_
  refine va_putF (D := (dC, dI)) (ci := 1) (v := .ref q_5) (ty := tyX1 1) (C := RX1) (T := TX1) (N := 8) hx hb hts miX1_init_X1 tyX1 tyX1_ok nmX1 hown hK hP hD hS 0 rfl rfl 1 (by decide) (hts _ mbX1_init_11) (fun _ h9 => h9) rfl hin rfl (by decide +kernel) rfl rfl (Nat.le_of_ble_eq_true rfl) dX1_init_20 (fun H locs hP hD hS => ?_)
  have hP : va_P (dC, dI) vwCl [(h0, .inr (1, [.ref q_1, .ref q_5, .int 0, .int 0, .int 0, .int 0, .int 0, .int 0])), (q_1, .inr (0, [.ref pg_])), (pg_, .inl (cP_, 64, .inr (.inr (.inr (.inr (fun _ => none)))))), (q_5, .inl (cA_6, 33, .inl (fun _ => 0)))] H := hP
  have hD : va_D A [(h0, .inr (1, [.ref q_1, .ref q_5, .int 0, .int 0, .int 0, .int 0, .int 0, .int 0])), (q_1, .inr (0, [.ref pg_])), (pg_, .inl (cP_, 64, .inr (.inr (.inr (.inr (fun _ => none)))))), (q_5, .inl (cA_6, 33, .inl (fun _ => 0)))] := hD
  exact W.vret hx hb hr (fun t ht hW => ⟨⟨(q_1, pg_, cP_, q_5, cA_6), rfl, trivial, by rw [ht]; exact hP.sub [0, 3, 1, 2] rfl, va_K.moved hW.alike (hK.sub [1, 0] rfl), hD.sub [0, 3, 1, 2] (by decide) rfl⟩, hS.F ht⟩) hS.2.2 dX1_init_23
set_option maxRecDepth 100000 in
theorem mbM_init_0 : (.methodLink RX2 1 objectInit : Cond) ∈ wsM_init := by decide +kernel
set_option maxRecDepth 100000 in
theorem mbM_init_1 : (.instanceMethod objectInit : Cond) ∈ wsM_init := by decide +kernel
set_option maxRecDepth 100000 in
theorem mbM_init_2 : (.code objectInit ⟨#[0xb1]⟩ 1 none : Cond) ∈ wsM_init := List.mem_of_getElem? (i := 3) rfl
set_option maxRecDepth 100000 in
theorem mbM_init_3 : (.constant RX2 7 (65536) : Cond) ∈ wsM_init := by decide +kernel
set_option maxRecDepth 100000 in
theorem mbM_init_4 : (.arrayClass .int : Cond) ∈ wsM_init := by decide +kernel
set_option maxRecDepth 100000 in
theorem miM_init_X2 : ∀ w ∈ u_ws RX2 TX2 10, w ∈ wsM_init := by decide +kernel
set_option maxRecDepth 100000 in
theorem mbM_init_6 : (.fieldLink RX2 8 "SoftMapsModel" "bytes" "[I" : Cond) ∈ wsM_init := by decide +kernel
set_option maxRecDepth 100000 in
theorem mbM_init_7 : (.fieldLink RX2 14 "SoftMapsModel" "specials" "[I" : Cond) ∈ wsM_init := by decide +kernel
set_option maxHeartbeats 4000000 in
set_option maxRecDepth 100000 in
theorem c_M_init (l : Launch) (dC : Nat → ClassId) (dI : Nat → Nat → Nat) (sz : Nat) (k0 : Nat)  : Met l yM_init wsM_init ({ frames := 1, cells := 2, slots := 65569, locals := 12 }) (va_Pc [.ref k0] (fun U => U.heap.size = sz ∧ va_P (dC, dI) vwCl [(k0, .inr (2, [.int 0, .null, .null, .int 0, .int 0, .int 0, .int 0, .int 0, .int 0, .int 0]))] U.heap ∧ va_K (dC, dI) vwCl [] U ∧ va_D (fun _ => True) [(k0, .inr (2, [.int 0, .null, .null, .int 0, .int 0, .int 0, .int 0, .int 0, .int 0, .int 0]))])) (va_Qv (fun u : Nat × Nat × ClassId => True) (fun (u : Nat × Nat × ClassId) (t : State) => va_P (dC, dI) vwCl [(k0, .inr (2, [.int 0, .ref u.1, .ref u.2.1, .int 0, .int 0, .int 0, .int 0, .int 0, .int 0, .int 0])), (u.1, .inl (u.2.2, 65536, .inl (fun _ => 0))), (u.2.1, .inl (u.2.2, 33, .inl (fun _ => 0)))] t.heap ∧ va_K (dC, dI) vwCl [(u.2.2, .int)] t ∧ va_D (va_A [(k0, .inr (2, [.int 0, .null, .null, .int 0, .int 0, .int 0, .int 0, .int 0, .int 0, .int 0]))] sz) [(k0, .inr (2, [.int 0, .ref u.1, .ref u.2.1, .int 0, .int 0, .int 0, .int 0, .int 0, .int 0, .int 0])), (u.1, .inl (u.2.2, 65536, .inl (fun _ => 0))), (u.2.1, .inl (u.2.2, 33, .inl (fun _ => 0)))]) (va_A [(k0, .inr (2, [.int 0, .null, .null, .int 0, .int 0, .int 0, .int 0, .int 0, .int 0, .int 0]))] sz)) 2 65569 (va_A [(k0, .inr (2, [.int 0, .null, .null, .int 0, .int 0, .int 0, .int 0, .int 0, .int 0, .int 0]))] sz) := by
  refine Met.ofW (cc := cM_init) (maxL := 1) (ret := none) (by decide) rfl ?_
  intro p e s m args below meth c s₁ B hml hv
  obtain ⟨rfl, hsz, hP, hK, hD0⟩ := hv
  have hx := B.exec
  have hb := B.bytes
  have hr := B.returns
  have hts := atoms_spec (ws := wsM_init) B.pre
  have hown : s.vm.findClass RX2 = some m.cls := findClass_of_methodNamed B.named
  have hlocks := B.notSynchronized
  have hin : meth.name = "<init>" := (name_of_methodNamed B.named B.method).1
  subst hsz
  have hD := hD0.self (sz := s.heap.size)
  generalize hAe : va_A [(k0, .inr (2, [.int 0, .null, .null, .int 0, .int 0, .int 0, .int 0, .int 0, .int 0, .int 0]))] s.heap.size = A at hD ⊢
  have hA : ∀ q : Nat, s.heap.size ≤ q → A q := fun q h => by rw [← hAe]; exact Or.inr h
  have hS : va_S A s.heap s.heap [] := va_S.rf
  have hP : va_P (dC, dI) vwCl [(k0, .inr (2, [.int 0, .null, .null, .int 0, .int 0, .int 0, .int 0, .int 0, .int 0, .int 0]))] s.heap := hP
  have hl := lv_entry ([.ref k0]) (n := 1) (Nat.le_of_ble_eq_true rfl)
  rw [lg_entry_eq]
  generalize (lg_sl ([.ref k0]) ++ List.replicate (1 - (lg_sl ([.ref k0])).length) Slot.unset).toArray = ls at hl ⊢
  have hl : lv_has ls 1 [(0, .ref k0)] := hl
  refine lv_aload_n hx hb dM_init_0 rfl (lv_at hl 0 rfl) ?_
  refine W.objInit hx hb hown (hts _ mbM_init_0) (hts _ mbM_init_1) (hts _ mbM_init_2) rfl (by rw [hml]; exact hl.1) rfl dM_init_1 (Nat.le_of_ble_eq_true rfl) (Nat.le_of_ble_eq_true rfl) ?_
  refine W.eq (g2 := F0 m 4 ls []) rfl ?_
  refine lv_aload_n hx hb dM_init_4 rfl (lv_at hl 0 rfl) ?_
  refine lv_ldc (v := 65536) hx hb hown (hts _ mbM_init_3) dM_init_5 ?_
  refine va_newa (atype := .int) (N' := 65536) (a0 := (65536, .inl (fun _ => 0))) (ty := .int) (n := 65536) hx hb (hts _ mbM_init_4) rfl hK hP hD hS hA (fun _ => rfl) (by decide) (by decide +kernel) (by decide) (Nat.le_of_ble_eq_true rfl) (Nat.le_of_ble_eq_true rfl) dM_init_7 (fun q_1 cA_2 H hK hP hD hS => ?_)
  have hP : va_P (dC, dI) vwCl [(k0, .inr (2, [.int 0, .null, .null, .int 0, .int 0, .int 0, .int 0, .int 0, .int 0, .int 0])), (q_1, .inl (cA_2, 65536, .inl (fun _ => 0)))] H := hP
  have hD : va_D A [(k0, .inr (2, [.int 0, .null, .null, .int 0, .int 0, .int 0, .int 0, .int 0, .int 0, .int 0])), (q_1, .inl (cA_2, 65536, .inl (fun _ => 0)))] := hD
  have hK : va_K (dC, dI) vwCl [(cA_2, .int)] s := hK
  refine W.widen (k := 1) (n := 65536) (by omega) (by omega) ?_
  refine va_putF (D := (dC, dI)) (ci := 2) (v := .ref q_1) (ty := tyX2 1) (C := RX2) (T := TX2) (N := 10) hx hb hts miM_init_X2 tyX2 tyX2_ok nmX2 hown hK hP hD hS 0 rfl rfl 1 (by decide) (hts _ mbM_init_6) (fun _ h9 => h9) rfl hin rfl (by decide +kernel) rfl rfl (Nat.le_of_ble_eq_true rfl) dM_init_9 (fun H locs hP hD hS => ?_)
  have hP : va_P (dC, dI) vwCl [(k0, .inr (2, [.int 0, .ref q_1, .null, .int 0, .int 0, .int 0, .int 0, .int 0, .int 0, .int 0])), (q_1, .inl (cA_2, 65536, .inl (fun _ => 0)))] H := hP
  have hD : va_D A [(k0, .inr (2, [.int 0, .ref q_1, .null, .int 0, .int 0, .int 0, .int 0, .int 0, .int 0, .int 0])), (q_1, .inl (cA_2, 65536, .inl (fun _ => 0)))] := hD
  refine lv_aload_n hx hb dM_init_12 rfl (lv_at hl 0 rfl) ?_
  refine lv_bipush (v := 33) hx hb dM_init_13 (by decide) ?_
  refine va_newa (atype := .int) (N' := 33) (a0 := (33, .inl (fun _ => 0))) (ty := .int) (n := 33) hx hb (hts _ mbM_init_4) rfl hK hP hD hS hA (fun _ => rfl) (by decide) (by decide +kernel) (by decide) (Nat.le_of_ble_eq_true rfl) (Nat.le_of_ble_eq_true rfl) dM_init_15 (fun q_3 cA_4 H hK hP hD hS => ?_)
  have hP : va_P (dC, dI) vwCl [(k0, .inr (2, [.int 0, .ref q_1, .null, .int 0, .int 0, .int 0, .int 0, .int 0, .int 0, .int 0])), (q_1, .inl (cA_2, 65536, .inl (fun _ => 0))), (q_3, .inl (cA_4, 33, .inl (fun _ => 0)))] H := hP
  have hD : va_D A [(k0, .inr (2, [.int 0, .ref q_1, .null, .int 0, .int 0, .int 0, .int 0, .int 0, .int 0, .int 0])), (q_1, .inl (cA_2, 65536, .inl (fun _ => 0))), (q_3, .inl (cA_4, 33, .inl (fun _ => 0)))] := hD
  have hK : va_K (dC, dI) vwCl [(cA_2, .int), (cA_4, .int)] s := hK
  refine W.widen (k := 2) (n := 65569) (by omega) (by omega) ?_
  refine va_putF (D := (dC, dI)) (ci := 2) (v := .ref q_3) (ty := tyX2 2) (C := RX2) (T := TX2) (N := 10) hx hb hts miM_init_X2 tyX2 tyX2_ok nmX2 hown hK hP hD hS 0 rfl rfl 2 (by decide) (hts _ mbM_init_7) (fun _ h9 => h9) rfl hin rfl (by decide +kernel) rfl rfl (Nat.le_of_ble_eq_true rfl) dM_init_17 (fun H locs hP hD hS => ?_)
  have hP : va_P (dC, dI) vwCl [(k0, .inr (2, [.int 0, .ref q_1, .ref q_3, .int 0, .int 0, .int 0, .int 0, .int 0, .int 0, .int 0])), (q_1, .inl (cA_2, 65536, .inl (fun _ => 0))), (q_3, .inl (cA_4, 33, .inl (fun _ => 0)))] H := hP
  have hD : va_D A [(k0, .inr (2, [.int 0, .ref q_1, .ref q_3, .int 0, .int 0, .int 0, .int 0, .int 0, .int 0, .int 0])), (q_1, .inl (cA_2, 65536, .inl (fun _ => 0))), (q_3, .inl (cA_4, 33, .inl (fun _ => 0)))] := hD
  have hcc : cA_4 = cA_2 := cls_eq hK (i := 1) (j := 0) rfl rfl
  rw [hcc] at hP hD
  exact W.vret hx hb hr (fun t ht hW => ⟨⟨(q_1, q_3, cA_2), rfl, trivial, by rw [ht]; exact hP, va_K.moved hW.alike (hK.sub [0] rfl), hD⟩, hS.F ht⟩) hS.2.2 dM_init_20
