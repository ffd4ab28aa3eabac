set_option maxRecDepth 100000 in
theorem miM_code_X2 : ∀ w ∈ u_ws RX2 TX2 10, w ∈ wsM_code := by decide +kernel
set_option maxRecDepth 100000 in
theorem mbM_code_1 : (.fieldLink RX2 17 "SoftMapsModel" "thrown" "I" : Cond) ∈ wsM_code := by decide +kernel
set_option maxRecDepth 100000 in
theorem mbM_code_2 : (.fieldLink RX2 66 "SoftMapsModel" "codes" "I" : Cond) ∈ wsM_code := by decide +kernel
set_option maxRecDepth 100000 in
theorem mbM_code_3 : (.fieldLink RX2 46 "SoftMapsModel" "found" "I" : Cond) ∈ wsM_code := by decide +kernel
def s_M_code (y : Nat → Int32) (z : Nat → Int32) (a1 : Int32) (a2 : Int32) (a3 : Int32) (a4 : Int32) (fo : Int32) (v : Int32) : Int32 × Int32 × Int32 × Int32 × Int32 × Int32 × Int32 :=
  if (s_M_probe z a1 a2 a3 fo v 0 1).1 = 0 then
    (0, (0, (s_M_probe z a1 a2 a3 fo v 0 1).2.1, (s_M_probe z a1 a2 a3 fo v 0 1).2.2.1, (s_M_probe z a1 a2 a3 fo v 0 1).2.2.2.1, a4, (s_M_probe z a1 a2 a3 fo v 0 1).2.2.2.2))
  else
    (s_M_wordIn y ((s_M_probe z a1 a2 a3 fo v 0 1).2.2.2.2), (0, (s_M_probe z a1 a2 a3 fo v 0 1).2.1, (s_M_probe z a1 a2 a3 fo v 0 1).2.2.1, (s_M_probe z a1 a2 a3 fo v 0 1).2.2.2.1, a4 + 1, (s_M_probe z a1 a2 a3 fo v 0 1).2.2.2.2))
set_option maxHeartbeats 4000000 in
set_option maxRecDepth 100000 in
theorem c_M_code (l : Launch) (dC : Nat → ClassId) (dI : Nat → Nat → Nat) (sz : Nat) (k0 yb zb : Nat) (cI : ClassId) (y z : Nat → Int32) (th a1 a2 a3 a4 a5 a6 fo : Int32) (v : Int32) (hq : md_ok z) : Met l yM_code wsM_code ({ frames := 3, cells := 0, slots := 0, locals := 80 }) (va_Pc [.ref k0, .int v] (fun U => U.heap.size = sz ∧ va_P (dC, dI) vwCl [(k0, .inr (2, [.int th, .ref yb, .ref zb, .int a1, .int a2, .int a3, .int a4, .int a5, .int a6, .int fo])), (yb, .inl (cI, 65536, .inl y)), (zb, .inl (cI, 33, .inl z))] U.heap ∧ va_K (dC, dI) vwCl [(cI, .int)] U ∧ va_D (fun _ => True) [(k0, .inr (2, [.int th, .ref yb, .ref zb, .int a1, .int a2, .int a3, .int a4, .int a5, .int a6, .int fo])), (yb, .inl (cI, 65536, .inl y)), (zb, .inl (cI, 33, .inl z))])) (va_Qi (fun (a_ : Int32) (u : Int32 × Int32 × Int32 × Int32 × Int32 × Int32) => (a_, u) = s_M_code y z a1 a2 a3 a4 fo v) (fun (u : Int32 × Int32 × Int32 × Int32 × Int32 × Int32) (t : State) => va_P (dC, dI) vwCl [(k0, .inr (2, [.int u.1, .ref yb, .ref zb, .int u.2.1, .int u.2.2.1, .int u.2.2.2.1, .int u.2.2.2.2.1, .int a5, .int a6, .int u.2.2.2.2.2])), (yb, .inl (cI, 65536, .inl y)), (zb, .inl (cI, 33, .inl z))] t.heap ∧ va_K (dC, dI) vwCl [(cI, .int)] t ∧ va_D (va_A [(k0, .inr (2, [.int th, .ref yb, .ref zb, .int a1, .int a2, .int a3, .int a4, .int a5, .int a6, .int fo])), (yb, .inl (cI, 65536, .inl y)), (zb, .inl (cI, 33, .inl z))] sz) [(k0, .inr (2, [.int u.1, .ref yb, .ref zb, .int u.2.1, .int u.2.2.1, .int u.2.2.2.1, .int u.2.2.2.2.1, .int a5, .int a6, .int u.2.2.2.2.2])), (yb, .inl (cI, 65536, .inl y)), (zb, .inl (cI, 33, .inl z))]) (va_A [(k0, .inr (2, [.int th, .ref yb, .ref zb, .int a1, .int a2, .int a3, .int a4, .int a5, .int a6, .int fo])), (yb, .inl (cI, 65536, .inl y)), (zb, .inl (cI, 33, .inl z))] sz)) 0 0 (va_A [(k0, .inr (2, [.int th, .ref yb, .ref zb, .int a1, .int a2, .int a3, .int a4, .int a5, .int a6, .int fo])), (yb, .inl (cI, 65536, .inl y)), (zb, .inl (cI, 33, .inl z))] sz) := by
  refine Met.ofW (cc := cM_code) (maxL := 2) (ret := (some .int)) (by decide) rfl ?_
  intro p e s m args below meth c s₁ B hml hv
  obtain ⟨rfl, hsz, hP, hK, hD0⟩ := hv
  have hx := B.exec
  have hb := B.bytes
  have hr := B.returns
  have hts := atoms_spec (ws := wsM_code) B.pre
  have hown : s.vm.findClass RX2 = some m.cls := findClass_of_methodNamed B.named
  have hlocks := B.notSynchronized
  subst hsz
  have hD := hD0.self (sz := s.heap.size)
  generalize hAe : va_A [(k0, .inr (2, [.int th, .ref yb, .ref zb, .int a1, .int a2, .int a3, .int a4, .int a5, .int a6, .int fo])), (yb, .inl (cI, 65536, .inl y)), (zb, .inl (cI, 33, .inl z))] s.heap.size = A at hD ⊢
  have hA : ∀ q : Nat, s.heap.size ≤ q → A q := fun q h => by rw [← hAe]; exact Or.inr h
  have hS : va_S A s.heap s.heap [] := va_S.rf
  have hP : va_P (dC, dI) vwCl [(k0, .inr (2, [.int th, .ref yb, .ref zb, .int a1, .int a2, .int a3, .int a4, .int a5, .int a6, .int fo])), (yb, .inl (cI, 65536, .inl y)), (zb, .inl (cI, 33, .inl z))] s.heap := hP
  have hl := lv_entry ([.ref k0, .int v]) (n := 2) (Nat.le_of_ble_eq_true rfl)
  rw [lg_entry_eq]
  generalize (lg_sl ([.ref k0, .int v]) ++ List.replicate (2 - (lg_sl ([.ref k0, .int v])).length) Slot.unset).toArray = ls at hl ⊢
  have hl : lv_has ls 2 [(0, .ref k0), (1, .int v)] := hl
  refine lv_aload_n hx hb dM_code_0 rfl (lv_at hl 0 rfl) ?_
  refine lv_iconst (v := 0) hx hb dM_code_1 (by decide) ?_
  refine va_put (D := (dC, dI)) (ci := 2) (v := .int 0) (ty := tyX2 0) (C := RX2) (T := TX2) (N := 10) hx hb hts miM_code_X2 tyX2 tyX2_ok nmX2 hown hK hP hD hS 0 rfl rfl 0 (by decide) (hts _ mbM_code_1) (fun _ h9 => h9) rfl (by decide +kernel) rfl rfl (Nat.le_of_ble_eq_true rfl) dM_code_2 (fun H locs hP hD hS => ?_)
  have hP : va_P (dC, dI) vwCl [(k0, .inr (2, [.int 0, .ref yb, .ref zb, .int a1, .int a2, .int a3, .int a4, .int a5, .int a6, .int fo])), (yb, .inl (cI, 65536, .inl y)), (zb, .inl (cI, 33, .inl z))] H := hP
  have hD : va_D A [(k0, .inr (2, [.int 0, .ref yb, .ref zb, .int a1, .int a2, .int a3, .int a4, .int a5, .int a6, .int fo])), (yb, .inl (cI, 65536, .inl y)), (zb, .inl (cI, 33, .inl z))] := hD
  refine lv_aload_n hx hb dM_code_5 rfl (lv_at hl 0 rfl) ?_
  refine lv_iload_n hx hb dM_code_6 rfl (lv_at hl 1 rfl) ?_
  refine lv_iconst (v := 0) hx hb dM_code_7 (by decide) ?_
  refine lv_iconst (v := 1) hx hb dM_code_8 (by decide) ?_
  have hPc := hP.sub (ws' := [(k0, .inr (2, [.int 0, .ref yb, .ref zb, .int a1, .int a2, .int a3, .int a4, .int a5, .int a6, .int fo])), (yb, .inl (cI, 65536, .inl y)), (zb, .inl (cI, 33, .inl z))]) [0, 1, 2] rfl
  have hDc := hD.sub (ws' := [(k0, .inr (2, [.int 0, .ref yb, .ref zb, .int a1, .int a2, .int a3, .int a4, .int a5, .int a6, .int fo])), (yb, .inl (cI, 65536, .inl y)), (zb, .inl (cI, 33, .inl z))]) [0, 1, 2] (by decide) rfl
  have hFc := va_free (wc := [(k0, .inr (2, [.int 0, .ref yb, .ref zb, .int a1, .int a2, .int a3, .int a4, .int a5, .int a6, .int fo])), (yb, .inl (cI, 65536, .inl y)), (zb, .inl (cI, 33, .inl z))]) hD hS hA [0, 1, 2] rfl
  have hKc := hK.sub (tys' := [(cI, .int)]) [0] rfl
  refine va_calli (va_runV (As := [.int v, .int 0, .int 1]) (rest := []) ⟨hx, hb, hml, hown, hts⟩ (c_M_probe l dC dI (H.size) k0 yb zb cI y z 0 a1 a2 a3 a4 a5 a6 fo v 0 1) (cwV 3 hts gM_code_M_probe rfl rfl rfl (by decide +kernel) ⟨Nat.le_of_ble_eq_true rfl, Nat.le_of_ble_eq_true rfl⟩) ⟨fun a U g mk q => by obtain ⟨q0, q1, qP, qK, qD⟩ := q; exact ⟨q0, q1, qP, va_K.moved (u := U) (U := U.calling g mk a) (Vm.Alike.refl U.vm) qK, qD⟩, va_recv hKc hPc (ci := 2) (q0 := 0) rfl rfl, fun U hU hW => ⟨rfl, by rw [hU], by rw [hU]; exact hPc, va_K.moved hW.alike hKc, hDc.weaken (fun _ _ _ _ => trivial)⟩⟩ rfl rfl hl.1 rfl (lv_room (Nat.le_of_ble_eq_true rfl)) dM_code_9 ⟨Nat.le_of_ble_eq_true rfl, Nat.le_of_ble_eq_true rfl⟩) hS (fun q _ h => hFc q h) hFc (fun r_1 u_3 t H1 locs ht hvm hw_2 hB hz1 hk1 hS => ?_)
  have e1_ : r_1 = (s_M_probe z a1 a2 a3 fo v 0 1).1 := congrArg Prod.fst hw_2
  have e2_ : u_3 = (s_M_probe z a1 a2 a3 fo v 0 1).2 := congrArg Prod.snd hw_2
  subst e1_ e2_
  obtain ⟨hP1, hK1, hD1⟩ := hB
  rw [ht] at hP1
  obtain ⟨hP, hD⟩ := va_join (wr := []) (w1 := [(k0, .inr (2, [.int 0, .ref yb, .ref zb, .int ((s_M_probe z a1 a2 a3 fo v 0 1).2.1), .int ((s_M_probe z a1 a2 a3 fo v 0 1).2.2.1), .int ((s_M_probe z a1 a2 a3 fo v 0 1).2.2.2.1), .int a4, .int a5, .int a6, .int ((s_M_probe z a1 a2 a3 fo v 0 1).2.2.2.2)])), (yb, .inl (cI, 65536, .inl y)), (zb, .inl (cI, 33, .inl z))]) hP hD [0, 1, 2] [] rfl rfl (by decide) (by decide) hk1 hFc hP1 hD1
  generalize H1 = H at hP hS ⊢
  have hP : va_P (dC, dI) vwCl [(k0, .inr (2, [.int 0, .ref yb, .ref zb, .int ((s_M_probe z a1 a2 a3 fo v 0 1).2.1), .int ((s_M_probe z a1 a2 a3 fo v 0 1).2.2.1), .int ((s_M_probe z a1 a2 a3 fo v 0 1).2.2.2.1), .int a4, .int a5, .int a6, .int ((s_M_probe z a1 a2 a3 fo v 0 1).2.2.2.2)])), (yb, .inl (cI, 65536, .inl y)), (zb, .inl (cI, 33, .inl z))] H := hP
  have hD : va_D A [(k0, .inr (2, [.int 0, .ref yb, .ref zb, .int ((s_M_probe z a1 a2 a3 fo v 0 1).2.1), .int ((s_M_probe z a1 a2 a3 fo v 0 1).2.2.1), .int ((s_M_probe z a1 a2 a3 fo v 0 1).2.2.2.1), .int a4, .int a5, .int a6, .int ((s_M_probe z a1 a2 a3 fo v 0 1).2.2.2.2)])), (yb, .inl (cI, 65536, .inl y)), (zb, .inl (cI, 33, .inl z))] := hD
  refine lv_if_ne (tgt := 17) hx hb dM_code_12 (by decide) (fun c_4 => ?_) (fun c_4 => ?_)
  · skip
    refine lv_aload_n hx hb dM_code_17 rfl (lv_at hl 0 rfl) ?_
    refine lv_dup hx hb dM_code_18 rfl ?_
    refine va_get (D := (dC, dI)) (ci := 2) (v := .int a4) (C := RX2) (T := TX2) (N := 10) hx hb hts miM_code_X2 hown hK hP 0 rfl rfl 6 (by decide) (hts _ mbM_code_2) (fun _ h9 => h9) rfl dM_code_19 ?_
    refine lv_iconst (v := 1) hx hb dM_code_22 (by decide) ?_
    refine lv_iadd hx hb dM_code_23 ?_
    refine va_put (D := (dC, dI)) (ci := 2) (v := .int (a4 + 1)) (ty := tyX2 6) (C := RX2) (T := TX2) (N := 10) hx hb hts miM_code_X2 tyX2 tyX2_ok nmX2 hown hK hP hD hS 0 rfl rfl 6 (by decide) (hts _ mbM_code_2) (fun _ h9 => h9) rfl (by decide +kernel) rfl rfl (Nat.le_of_ble_eq_true rfl) dM_code_24 (fun H locs hP hD hS => ?_)
    have hP : va_P (dC, dI) vwCl [(k0, .inr (2, [.int 0, .ref yb, .ref zb, .int ((s_M_probe z a1 a2 a3 fo v 0 1).2.1), .int ((s_M_probe z a1 a2 a3 fo v 0 1).2.2.1), .int ((s_M_probe z a1 a2 a3 fo v 0 1).2.2.2.1), .int (a4 + 1), .int a5, .int a6, .int ((s_M_probe z a1 a2 a3 fo v 0 1).2.2.2.2)])), (yb, .inl (cI, 65536, .inl y)), (zb, .inl (cI, 33, .inl z))] H := hP
    have hD : va_D A [(k0, .inr (2, [.int 0, .ref yb, .ref zb, .int ((s_M_probe z a1 a2 a3 fo v 0 1).2.1), .int ((s_M_probe z a1 a2 a3 fo v 0 1).2.2.1), .int ((s_M_probe z a1 a2 a3 fo v 0 1).2.2.2.1), .int (a4 + 1), .int a5, .int a6, .int ((s_M_probe z a1 a2 a3 fo v 0 1).2.2.2.2)])), (yb, .inl (cI, 65536, .inl y)), (zb, .inl (cI, 33, .inl z))] := hD
    refine lv_aload_n hx hb dM_code_27 rfl (lv_at hl 0 rfl) ?_
    refine lv_aload_n hx hb dM_code_28 rfl (lv_at hl 0 rfl) ?_
    refine va_get (D := (dC, dI)) (ci := 2) (v := .int ((s_M_probe z a1 a2 a3 fo v 0 1).2.2.2.2)) (C := RX2) (T := TX2) (N := 10) hx hb hts miM_code_X2 hown hK hP 0 rfl rfl 9 (by decide) (hts _ mbM_code_3) (fun _ h9 => h9) rfl dM_code_29 ?_
    have hPc := hP.sub (ws' := [(k0, .inr (2, [.int 0, .ref yb, .ref zb, .int ((s_M_probe z a1 a2 a3 fo v 0 1).2.1), .int ((s_M_probe z a1 a2 a3 fo v 0 1).2.2.1), .int ((s_M_probe z a1 a2 a3 fo v 0 1).2.2.2.1), .int (a4 + 1), .int a5, .int a6, .int ((s_M_probe z a1 a2 a3 fo v 0 1).2.2.2.2)])), (yb, .inl (cI, 65536, .inl y)), (zb, .inl (cI, 33, .inl z))]) [0, 1, 2] rfl
    have hKc := hK.sub (tys' := [(cI, .int)]) [0] rfl
    refine vp_callSi (va_Run.run (va_runV (As := [.int ((s_M_probe z a1 a2 a3 fo v 0 1).2.2.2.2)]) (rest := []) ⟨hx, hb, hml, hown, hts⟩ (c_M_wordIn l dC dI k0 yb zb cI y z 0 ((s_M_probe z a1 a2 a3 fo v 0 1).2.1) ((s_M_probe z a1 a2 a3 fo v 0 1).2.2.1) ((s_M_probe z a1 a2 a3 fo v 0 1).2.2.2.1) (a4 + 1) a5 a6 ((s_M_probe z a1 a2 a3 fo v 0 1).2.2.2.2) ((s_M_probe z a1 a2 a3 fo v 0 1).2.2.2.2) (pr_4 hq c_4 (fun q => absurd q.1 (by decide)))) (cwV 1 hts gM_code_M_wordIn rfl rfl rfl (by decide +kernel) ⟨Nat.le_of_ble_eq_true rfl, Nat.le_of_ble_eq_true rfl⟩) ⟨fun a U g mk q => by obtain ⟨q0, qP, qK⟩ := q; exact ⟨q0, qP, va_K.moved (u := U) (U := U.calling g mk a) (Vm.Alike.refl U.vm) qK⟩, va_recv hKc hPc (ci := 2) (q0 := 0) rfl rfl, fun U hU hW => ⟨rfl, by rw [hU]; exact hPc, va_K.moved hW.alike hKc⟩⟩ rfl rfl hl.1 rfl (lv_room (Nat.le_of_ble_eq_true rfl)) dM_code_32 ⟨Nat.le_of_ble_eq_true rfl, Nat.le_of_ble_eq_true rfl⟩)) (fun r_5 hw_6 => ?_)
    subst hw_6
    exact W.iret (v := s_M_wordIn y ((s_M_probe z a1 a2 a3 fo v 0 1).2.2.2.2)) hx hb hr (fun t ht hW => ⟨⟨s_M_wordIn y ((s_M_probe z a1 a2 a3 fo v 0 1).2.2.2.2), (0, (s_M_probe z a1 a2 a3 fo v 0 1).2.1, (s_M_probe z a1 a2 a3 fo v 0 1).2.2.1, (s_M_probe z a1 a2 a3 fo v 0 1).2.2.2.1, a4 + 1, (s_M_probe z a1 a2 a3 fo v 0 1).2.2.2.2), rfl, by simp only [s_M_code, if_neg c_4], by rw [ht]; exact hP, va_K.moved hW.alike hK, hD⟩, hS.F ht⟩) hS.2.2 dM_code_35
  · skip
    refine lv_iconst (v := 0) hx hb dM_code_15 (by decide) ?_
    exact W.iret (v := 0) hx hb hr (fun t ht hW => ⟨⟨0, (0, (s_M_probe z a1 a2 a3 fo v 0 1).2.1, (s_M_probe z a1 a2 a3 fo v 0 1).2.2.1, (s_M_probe z a1 a2 a3 fo v 0 1).2.2.2.1, a4, (s_M_probe z a1 a2 a3 fo v 0 1).2.2.2.2), rfl, by simp only [s_M_code, if_pos c_4], by rw [ht]; exact hP, va_K.moved hW.alike hK, hD⟩, hS.F ht⟩) hS.2.2 dM_code_16
set_option maxRecDepth 100000 in
theorem miM_load_X2 : ∀ w ∈ u_ws RX2 TX2 10, w ∈ wsM_load := by decide +kernel
set_option maxRecDepth 100000 in
theorem mbM_load_1 : (.fieldLink RX2 17 "SoftMapsModel" "thrown" "I" : Cond) ∈ wsM_load := by decide +kernel
set_option maxRecDepth 100000 in
theorem mbM_load_2 : (.fieldLink RX2 73 "SoftMapsModel" "loads" "I" : Cond) ∈ wsM_load := by decide +kernel
set_option maxRecDepth 100000 in
theorem mbM_load_3 : (.fieldLink RX2 8 "SoftMapsModel" "bytes" "[I" : Cond) ∈ wsM_load := by decide +kernel
set_option maxRecDepth 100000 in
theorem mbM_load_4 : (.fieldLink RX2 46 "SoftMapsModel" "found" "I" : Cond) ∈ wsM_load := by decide +kernel
def s_M_load (y : Nat → Int32) (z : Nat → Int32) (a1 : Int32) (a2 : Int32) (a3 : Int32) (a5 : Int32) (fo : Int32) (v : Int32) (wd : Int32) : Int32 × Int32 × Int32 × Int32 × Int32 × Int32 × Int32 :=
  if (s_M_probe z a1 a2 a3 fo v 1 wd).1 = 0 then
    (0, (0, (s_M_probe z a1 a2 a3 fo v 1 wd).2.1, (s_M_probe z a1 a2 a3 fo v 1 wd).2.2.1, (s_M_probe z a1 a2 a3 fo v 1 wd).2.2.2.1, a5, (s_M_probe z a1 a2 a3 fo v 1 wd).2.2.2.2))
  else
    if wd = 0 then
      (y ((s_M_probe z a1 a2 a3 fo v 1 wd).2.2.2.2).toNatClampNeg, (0, (s_M_probe z a1 a2 a3 fo v 1 wd).2.1, (s_M_probe z a1 a2 a3 fo v 1 wd).2.2.1, (s_M_probe z a1 a2 a3 fo v 1 wd).2.2.2.1, a5 + 1, (s_M_probe z a1 a2 a3 fo v 1 wd).2.2.2.2))
    else
      (s_M_wordIn y ((s_M_probe z a1 a2 a3 fo v 1 wd).2.2.2.2), (0, (s_M_probe z a1 a2 a3 fo v 1 wd).2.1, (s_M_probe z a1 a2 a3 fo v 1 wd).2.2.1, (s_M_probe z a1 a2 a3 fo v 1 wd).2.2.2.1, a5 + 1, (s_M_probe z a1 a2 a3 fo v 1 wd).2.2.2.2))
set_option maxHeartbeats 4000000 in
set_option maxRecDepth 100000 in
theorem c_M_load (l : Launch) (dC : Nat → ClassId) (dI : Nat → Nat → Nat) (sz : Nat) (k0 yb zb : Nat) (cI : ClassId) (y z : Nat → Int32) (th a1 a2 a3 a4 a5 a6 fo : Int32) (v : Int32) (wd : Int32) (hq : md_ok z) : Met l yM_load wsM_load ({ frames := 3, cells := 0, slots := 0, locals := 80 }) (va_Pc [.ref k0, .int v, .int wd] (fun U => U.heap.size = sz ∧ va_P (dC, dI) vwCl [(k0, .inr (2, [.int th, .ref yb, .ref zb, .int a1, .int a2, .int a3, .int a4, .int a5, .int a6, .int fo])), (yb, .inl (cI, 65536, .inl y)), (zb, .inl (cI, 33, .inl z))] U.heap ∧ va_K (dC, dI) vwCl [(cI, .int)] U ∧ va_D (fun _ => True) [(k0, .inr (2, [.int th, .ref yb, .ref zb, .int a1, .int a2, .int a3, .int a4, .int a5, .int a6, .int fo])), (yb, .inl (cI, 65536, .inl y)), (zb, .inl (cI, 33, .inl z))])) (va_Qi (fun (a_ : Int32) (u : Int32 × Int32 × Int32 × Int32 × Int32 × Int32) => (a_, u) = s_M_load y z a1 a2 a3 a5 fo v wd) (fun (u : Int32 × Int32 × Int32 × Int32 × Int32 × Int32) (t : State) => va_P (dC, dI) vwCl [(k0, .inr (2, [.int u.1, .ref yb, .ref zb, .int u.2.1, .int u.2.2.1, .int u.2.2.2.1, .int a4, .int u.2.2.2.2.1, .int a6, .int u.2.2.2.2.2])), (yb, .inl (cI, 65536, .inl y)), (zb, .inl (cI, 33, .inl z))] t.heap ∧ va_K (dC, dI) vwCl [(cI, .int)] t ∧ va_D (va_A [(k0, .inr (2, [.int th, .ref yb, .ref zb, .int a1, .int a2, .int a3, .int a4, .int a5, .int a6, .int fo])), (yb, .inl (cI, 65536, .inl y)), (zb, .inl (cI, 33, .inl z))] sz) [(k0, .inr (2, [.int u.1, .ref yb, .ref zb, .int u.2.1, .int u.2.2.1, .int u.2.2.2.1, .int a4, .int u.2.2.2.2.1, .int a6, .int u.2.2.2.2.2])), (yb, .inl (cI, 65536, .inl y)), (zb, .inl (cI, 33, .inl z))]) (va_A [(k0, .inr (2, [.int th, .ref yb, .ref zb, .int a1, .int a2, .int a3, .int a4, .int a5, .int a6, .int fo])), (yb, .inl (cI, 65536, .inl y)), (zb, .inl (cI, 33, .inl z))] sz)) 0 0 (va_A [(k0, .inr (2, [.int th, .ref yb, .ref zb, .int a1, .int a2, .int a3, .int a4, .int a5, .int a6, .int fo])), (yb, .inl (cI, 65536, .inl y)), (zb, .inl (cI, 33, .inl z))] sz) := by
  refine Met.ofW (cc := cM_load) (maxL := 3) (ret := (some .int)) (by decide) rfl ?_
  intro p e s m args below meth c s₁ B hml hv
  obtain ⟨rfl, hsz, hP, hK, hD0⟩ := hv
  have hx := B.exec
  have hb := B.bytes
  have hr := B.returns
  have hts := atoms_spec (ws := wsM_load) B.pre
  have hown : s.vm.findClass RX2 = some m.cls := findClass_of_methodNamed B.named
  have hlocks := B.notSynchronized
  subst hsz
  have hD := hD0.self (sz := s.heap.size)
  generalize hAe : va_A [(k0, .inr (2, [.int th, .ref yb, .ref zb, .int a1, .int a2, .int a3, .int a4, .int a5, .int a6, .int fo])), (yb, .inl (cI, 65536, .inl y)), (zb, .inl (cI, 33, .inl z))] s.heap.size = A at hD ⊢
  have hA : ∀ q : Nat, s.heap.size ≤ q → A q := fun q h => by rw [← hAe]; exact Or.inr h
  have hS : va_S A s.heap s.heap [] := va_S.rf
  have hP : va_P (dC, dI) vwCl [(k0, .inr (2, [.int th, .ref yb, .ref zb, .int a1, .int a2, .int a3, .int a4, .int a5, .int a6, .int fo])), (yb, .inl (cI, 65536, .inl y)), (zb, .inl (cI, 33, .inl z))] s.heap := hP
  have hl := lv_entry ([.ref k0, .int v, .int wd]) (n := 3) (Nat.le_of_ble_eq_true rfl)
  rw [lg_entry_eq]
  generalize (lg_sl ([.ref k0, .int v, .int wd]) ++ List.replicate (3 - (lg_sl ([.ref k0, .int v, .int wd])).length) Slot.unset).toArray = ls at hl ⊢
  have hl : lv_has ls 3 [(0, .ref k0), (1, .int v), (2, .int wd)] := hl
  refine lv_aload_n hx hb dM_load_0 rfl (lv_at hl 0 rfl) ?_
  refine lv_iconst (v := 0) hx hb dM_load_1 (by decide) ?_
  refine va_put (D := (dC, dI)) (ci := 2) (v := .int 0) (ty := tyX2 0) (C := RX2) (T := TX2) (N := 10) hx hb hts miM_load_X2 tyX2 tyX2_ok nmX2 hown hK hP hD hS 0 rfl rfl 0 (by decide) (hts _ mbM_load_1) (fun _ h9 => h9) rfl (by decide +kernel) rfl rfl (Nat.le_of_ble_eq_true rfl) dM_load_2 (fun H locs hP hD hS => ?_)
  have hP : va_P (dC, dI) vwCl [(k0, .inr (2, [.int 0, .ref yb, .ref zb, .int a1, .int a2, .int a3, .int a4, .int a5, .int a6, .int fo])), (yb, .inl (cI, 65536, .inl y)), (zb, .inl (cI, 33, .inl z))] H := hP
  have hD : va_D A [(k0, .inr (2, [.int 0, .ref yb, .ref zb, .int a1, .int a2, .int a3, .int a4, .int a5, .int a6, .int fo])), (yb, .inl (cI, 65536, .inl y)), (zb, .inl (cI, 33, .inl z))] := hD
  refine lv_aload_n hx hb dM_load_5 rfl (lv_at hl 0 rfl) ?_
  refine lv_iload_n hx hb dM_load_6 rfl (lv_at hl 1 rfl) ?_
  refine lv_iconst (v := 1) hx hb dM_load_7 (by decide) ?_
  refine lv_iload_n hx hb dM_load_8 rfl (lv_at hl 2 rfl) ?_
  have hPc := hP.sub (ws' := [(k0, .inr (2, [.int 0, .ref yb, .ref zb, .int a1, .int a2, .int a3, .int a4, .int a5, .int a6, .int fo])), (yb, .inl (cI, 65536, .inl y)), (zb, .inl (cI, 33, .inl z))]) [0, 1, 2] rfl
  have hDc := hD.sub (ws' := [(k0, .inr (2, [.int 0, .ref yb, .ref zb, .int a1, .int a2, .int a3, .int a4, .int a5, .int a6, .int fo])), (yb, .inl (cI, 65536, .inl y)), (zb, .inl (cI, 33, .inl z))]) [0, 1, 2] (by decide) rfl
  have hFc := va_free (wc := [(k0, .inr (2, [.int 0, .ref yb, .ref zb, .int a1, .int a2, .int a3, .int a4, .int a5, .int a6, .int fo])), (yb, .inl (cI, 65536, .inl y)), (zb, .inl (cI, 33, .inl z))]) hD hS hA [0, 1, 2] rfl
  have hKc := hK.sub (tys' := [(cI, .int)]) [0] rfl
  refine va_calli (va_runV (As := [.int v, .int 1, .int wd]) (rest := []) ⟨hx, hb, hml, hown, hts⟩ (c_M_probe l dC dI (H.size) k0 yb zb cI y z 0 a1 a2 a3 a4 a5 a6 fo v 1 wd) (cwV 3 hts gM_load_M_probe rfl rfl rfl (by decide +kernel) ⟨Nat.le_of_ble_eq_true rfl, Nat.le_of_ble_eq_true rfl⟩) ⟨fun a U g mk q => by obtain ⟨q0, q1, qP, qK, qD⟩ := q; exact ⟨q0, q1, qP, va_K.moved (u := U) (U := U.calling g mk a) (Vm.Alike.refl U.vm) qK, qD⟩, va_recv hKc hPc (ci := 2) (q0 := 0) rfl rfl, fun U hU hW => ⟨rfl, by rw [hU], by rw [hU]; exact hPc, va_K.moved hW.alike hKc, hDc.weaken (fun _ _ _ _ => trivial)⟩⟩ rfl rfl hl.1 rfl (lv_room (Nat.le_of_ble_eq_true rfl)) dM_load_9 ⟨Nat.le_of_ble_eq_true rfl, Nat.le_of_ble_eq_true rfl⟩) hS (fun q _ h => hFc q h) hFc (fun r_1 u_3 t H1 locs ht hvm hw_2 hB hz1 hk1 hS => ?_)
  have e1_ : r_1 = (s_M_probe z a1 a2 a3 fo v 1 wd).1 := congrArg Prod.fst hw_2
  have e2_ : u_3 = (s_M_probe z a1 a2 a3 fo v 1 wd).2 := congrArg Prod.snd hw_2
  subst e1_ e2_
  obtain ⟨hP1, hK1, hD1⟩ := hB
  rw [ht] at hP1
  obtain ⟨hP, hD⟩ := va_join (wr := []) (w1 := [(k0, .inr (2, [.int 0, .ref yb, .ref zb, .int ((s_M_probe z a1 a2 a3 fo v 1 wd).2.1), .int ((s_M_probe z a1 a2 a3 fo v 1 wd).2.2.1), .int ((s_M_probe z a1 a2 a3 fo v 1 wd).2.2.2.1), .int a4, .int a5, .int a6, .int ((s_M_probe z a1 a2 a3 fo v 1 wd).2.2.2.2)])), (yb, .inl (cI, 65536, .inl y)), (zb, .inl (cI, 33, .inl z))]) hP hD [0, 1, 2] [] rfl rfl (by decide) (by decide) hk1 hFc hP1 hD1
  generalize H1 = H at hP hS ⊢
  have hP : va_P (dC, dI) vwCl [(k0, .inr (2, [.int 0, .ref yb, .ref zb, .int ((s_M_probe z a1 a2 a3 fo v 1 wd).2.1), .int ((s_M_probe z a1 a2 a3 fo v 1 wd).2.2.1), .int ((s_M_probe z a1 a2 a3 fo v 1 wd).2.2.2.1), .int a4, .int a5, .int a6, .int ((s_M_probe z a1 a2 a3 fo v 1 wd).2.2.2.2)])), (yb, .inl (cI, 65536, .inl y)), (zb, .inl (cI, 33, .inl z))] H := hP
  have hD : va_D A [(k0, .inr (2, [.int 0, .ref yb, .ref zb, .int ((s_M_probe z a1 a2 a3 fo v 1 wd).2.1), .int ((s_M_probe z a1 a2 a3 fo v 1 wd).2.2.1), .int ((s_M_probe z a1 a2 a3 fo v 1 wd).2.2.2.1), .int a4, .int a5, .int a6, .int ((s_M_probe z a1 a2 a3 fo v 1 wd).2.2.2.2)])), (yb, .inl (cI, 65536, .inl y)), (zb, .inl (cI, 33, .inl z))] := hD
  refine lv_if_ne (tgt := 17) hx hb dM_load_12 (by decide) (fun c_4 => ?_) (fun c_4 => ?_)
  · skip
    refine lv_aload_n hx hb dM_load_17 rfl (lv_at hl 0 rfl) ?_
    refine lv_dup hx hb dM_load_18 rfl ?_
    refine va_get (D := (dC, dI)) (ci := 2) (v := .int a5) (C := RX2) (T := TX2) (N := 10) hx hb hts miM_load_X2 hown hK hP 0 rfl rfl 7 (by decide) (hts _ mbM_load_2) (fun _ h9 => h9) rfl dM_load_19 ?_
    refine lv_iconst (v := 1) hx hb dM_load_22 (by decide) ?_
    refine lv_iadd hx hb dM_load_23 ?_
    refine va_put (D := (dC, dI)) (ci := 2) (v := .int (a5 + 1)) (ty := tyX2 7) (C := RX2) (T := TX2) (N := 10) hx hb hts miM_load_X2 tyX2 tyX2_ok nmX2 hown hK hP hD hS 0 rfl rfl 7 (by decide) (hts _ mbM_load_2) (fun _ h9 => h9) rfl (by decide +kernel) rfl rfl (Nat.le_of_ble_eq_true rfl) dM_load_24 (fun H locs hP hD hS => ?_)
    have hP : va_P (dC, dI) vwCl [(k0, .inr (2, [.int 0, .ref yb, .ref zb, .int ((s_M_probe z a1 a2 a3 fo v 1 wd).2.1), .int ((s_M_probe z a1 a2 a3 fo v 1 wd).2.2.1), .int ((s_M_probe z a1 a2 a3 fo v 1 wd).2.2.2.1), .int a4, .int (a5 + 1), .int a6, .int ((s_M_probe z a1 a2 a3 fo v 1 wd).2.2.2.2)])), (yb, .inl (cI, 65536, .inl y)), (zb, .inl (cI, 33, .inl z))] H := hP
    have hD : va_D A [(k0, .inr (2, [.int 0, .ref yb, .ref zb, .int ((s_M_probe z a1 a2 a3 fo v 1 wd).2.1), .int ((s_M_probe z a1 a2 a3 fo v 1 wd).2.2.1), .int ((s_M_probe z a1 a2 a3 fo v 1 wd).2.2.2.1), .int a4, .int (a5 + 1), .int a6, .int ((s_M_probe z a1 a2 a3 fo v 1 wd).2.2.2.2)])), (yb, .inl (cI, 65536, .inl y)), (zb, .inl (cI, 33, .inl z))] := hD
    refine lv_iload_n hx hb dM_load_27 rfl (lv_at hl 2 rfl) ?_
    refine lv_if_eq (tgt := 42) hx hb dM_load_28 (by decide) (fun c_5 => ?_) (fun c_5 => ?_)
    · skip
      refine lv_aload_n hx hb dM_load_42 rfl (lv_at hl 0 rfl) ?_
      refine va_get (D := (dC, dI)) (ci := 2) (v := .ref yb) (C := RX2) (T := TX2) (N := 10) hx hb hts miM_load_X2 hown hK hP 0 rfl rfl 1 (by decide) (hts _ mbM_load_3) (fun _ h9 => h9) rfl dM_load_43 ?_
      refine lv_aload_n hx hb dM_load_46 rfl (lv_at hl 0 rfl) ?_
      refine va_get (D := (dC, dI)) (ci := 2) (v := .int ((s_M_probe z a1 a2 a3 fo v 1 wd).2.2.2.2)) (C := RX2) (T := TX2) (N := 10) hx hb hts miM_load_X2 hown hK hP 0 rfl rfl 9 (by decide) (hts _ mbM_load_4) (fun _ h9 => h9) rfl dM_load_47 ?_
      refine va_iald hx hb hK hP 1 0 rfl rfl (pr_in hq c_4) dM_load_50 ?_
      exact W.iret (v := y ((s_M_probe z a1 a2 a3 fo v 1 wd).2.2.2.2).toNatClampNeg) hx hb hr (fun t ht hW => ⟨⟨y ((s_M_probe z a1 a2 a3 fo v 1 wd).2.2.2.2).toNatClampNeg, (0, (s_M_probe z a1 a2 a3 fo v 1 wd).2.1, (s_M_probe z a1 a2 a3 fo v 1 wd).2.2.1, (s_M_probe z a1 a2 a3 fo v 1 wd).2.2.2.1, a5 + 1, (s_M_probe z a1 a2 a3 fo v 1 wd).2.2.2.2), rfl, by simp only [s_M_load, if_neg c_4, if_pos c_5], by rw [ht]; exact hP, va_K.moved hW.alike hK, hD⟩, hS.F ht⟩) hS.2.2 dM_load_51
    · skip
      refine lv_aload_n hx hb dM_load_31 rfl (lv_at hl 0 rfl) ?_
      refine lv_aload_n hx hb dM_load_32 rfl (lv_at hl 0 rfl) ?_
      refine va_get (D := (dC, dI)) (ci := 2) (v := .int ((s_M_probe z a1 a2 a3 fo v 1 wd).2.2.2.2)) (C := RX2) (T := TX2) (N := 10) hx hb hts miM_load_X2 hown hK hP 0 rfl rfl 9 (by decide) (hts _ mbM_load_4) (fun _ h9 => h9) rfl dM_load_33 ?_
      have hPc := hP.sub (ws' := [(k0, .inr (2, [.int 0, .ref yb, .ref zb, .int ((s_M_probe z a1 a2 a3 fo v 1 wd).2.1), .int ((s_M_probe z a1 a2 a3 fo v 1 wd).2.2.1), .int ((s_M_probe z a1 a2 a3 fo v 1 wd).2.2.2.1), .int a4, .int (a5 + 1), .int a6, .int ((s_M_probe z a1 a2 a3 fo v 1 wd).2.2.2.2)])), (yb, .inl (cI, 65536, .inl y)), (zb, .inl (cI, 33, .inl z))]) [0, 1, 2] rfl
      have hKc := hK.sub (tys' := [(cI, .int)]) [0] rfl
      refine vp_callSi (va_Run.run (va_runV (As := [.int ((s_M_probe z a1 a2 a3 fo v 1 wd).2.2.2.2)]) (rest := []) ⟨hx, hb, hml, hown, hts⟩ (c_M_wordIn l dC dI k0 yb zb cI y z 0 ((s_M_probe z a1 a2 a3 fo v 1 wd).2.1) ((s_M_probe z a1 a2 a3 fo v 1 wd).2.2.1) ((s_M_probe z a1 a2 a3 fo v 1 wd).2.2.2.1) a4 (a5 + 1) a6 ((s_M_probe z a1 a2 a3 fo v 1 wd).2.2.2.2) ((s_M_probe z a1 a2 a3 fo v 1 wd).2.2.2.2) (pr_4 hq c_4 (fun q => c_5 q.1))) (cwV 1 hts gM_load_M_wordIn rfl rfl rfl (by decide +kernel) ⟨Nat.le_of_ble_eq_true rfl, Nat.le_of_ble_eq_true rfl⟩) ⟨fun a U g mk q => by obtain ⟨q0, qP, qK⟩ := q; exact ⟨q0, qP, va_K.moved (u := U) (U := U.calling g mk a) (Vm.Alike.refl U.vm) qK⟩, va_recv hKc hPc (ci := 2) (q0 := 0) rfl rfl, fun U hU hW => ⟨rfl, by rw [hU]; exact hPc, va_K.moved hW.alike hKc⟩⟩ rfl rfl hl.1 rfl (lv_room (Nat.le_of_ble_eq_true rfl)) dM_load_36 ⟨Nat.le_of_ble_eq_true rfl, Nat.le_of_ble_eq_true rfl⟩)) (fun r_6 hw_7 => ?_)
      subst hw_7
      refine lv_goto (tgt := 51) hx hb dM_load_39 (by decide) ?_
      exact W.iret (v := s_M_wordIn y ((s_M_probe z a1 a2 a3 fo v 1 wd).2.2.2.2)) hx hb hr (fun t ht hW => ⟨⟨s_M_wordIn y ((s_M_probe z a1 a2 a3 fo v 1 wd).2.2.2.2), (0, (s_M_probe z a1 a2 a3 fo v 1 wd).2.1, (s_M_probe z a1 a2 a3 fo v 1 wd).2.2.1, (s_M_probe z a1 a2 a3 fo v 1 wd).2.2.2.1, a5 + 1, (s_M_probe z a1 a2 a3 fo v 1 wd).2.2.2.2), rfl, by simp only [s_M_load, if_neg c_4, if_neg c_5], by rw [ht]; exact hP, va_K.moved hW.alike hK, hD⟩, hS.F ht⟩) hS.2.2 dM_load_51
  · skip
    refine lv_iconst (v := 0) hx hb dM_load_15 (by decide) ?_
    exact W.iret (v := 0) hx hb hr (fun t ht hW => ⟨⟨0, (0, (s_M_probe z a1 a2 a3 fo v 1 wd).2.1, (s_M_probe z a1 a2 a3 fo v 1 wd).2.2.1, (s_M_probe z a1 a2 a3 fo v 1 wd).2.2.2.1, a5, (s_M_probe z a1 a2 a3 fo v 1 wd).2.2.2.2), rfl, by simp only [s_M_load, if_pos c_4], by rw [ht]; exact hP, va_K.moved hW.alike hK, hD⟩, hS.F ht⟩) hS.2.2 dM_load_16
set_option maxRecDepth 100000 in
theorem miM_store_X2 : ∀ w ∈ u_ws RX2 TX2 10, w ∈ wsM_store := by decide +kernel
set_option maxRecDepth 100000 in
theorem mbM_store_1 : (.fieldLink RX2 17 "SoftMapsModel" "thrown" "I" : Cond) ∈ wsM_store := by decide +kernel
set_option maxRecDepth 100000 in
theorem mbM_store_2 : (.fieldLink RX2 76 "SoftMapsModel" "stores" "I" : Cond) ∈ wsM_store := by decide +kernel
set_option maxRecDepth 100000 in
theorem mbM_store_3 : (.fieldLink RX2 8 "SoftMapsModel" "bytes" "[I" : Cond) ∈ wsM_store := by decide +kernel
set_option maxRecDepth 100000 in
theorem mbM_store_4 : (.fieldLink RX2 46 "SoftMapsModel" "found" "I" : Cond) ∈ wsM_store := by decide +kernel
def s_M_store (y : Nat → Int32) (z : Nat → Int32) (a1 : Int32) (a2 : Int32) (a3 : Int32) (a6 : Int32) (fo : Int32) (v : Int32) (w : Int32) (wd : Int32) : Int32 × Int32 × (Nat → Int32) × Int32 × Int32 × Int32 × Int32 × Int32 :=
  if (s_M_probe z a1 a2 a3 fo v 2 wd).1 = 0 then
    ((-1), (0, y, (s_M_probe z a1 a2 a3 fo v 2 wd).2.1, (s_M_probe z a1 a2 a3 fo v 2 wd).2.2.1, (s_M_probe z a1 a2 a3 fo v 2 wd).2.2.2.1, a6, (s_M_probe z a1 a2 a3 fo v 2 wd).2.2.2.2))
  else
    if wd = 0 then
      ((s_M_probe z a1 a2 a3 fo v 2 wd).2.2.2.2, (0, upd y ((s_M_probe z a1 a2 a3 fo v 2 wd).2.2.2.2).toNatClampNeg (w &&& 255), (s_M_probe z a1 a2 a3 fo v 2 wd).2.1, (s_M_probe z a1 a2 a3 fo v 2 wd).2.2.1, (s_M_probe z a1 a2 a3 fo v 2 wd).2.2.2.1, a6 + 1, (s_M_probe z a1 a2 a3 fo v 2 wd).2.2.2.2))
    else
      ((s_M_probe z a1 a2 a3 fo v 2 wd).2.2.2.2, (0, (s_M_lay y ((s_M_probe z a1 a2 a3 fo v 2 wd).2.2.2.2) w), (s_M_probe z a1 a2 a3 fo v 2 wd).2.1, (s_M_probe z a1 a2 a3 fo v 2 wd).2.2.1, (s_M_probe z a1 a2 a3 fo v 2 wd).2.2.2.1, a6 + 1, (s_M_probe z a1 a2 a3 fo v 2 wd).2.2.2.2))
set_option maxHeartbeats 4000000 in
set_option maxRecDepth 100000 in
theorem c_M_store (l : Launch) (dC : Nat → ClassId) (dI : Nat → Nat → Nat) (sz : Nat) (k0 yb zb : Nat) (cI : ClassId) (y z : Nat → Int32) (th a1 a2 a3 a4 a5 a6 fo : Int32) (v : Int32) (w : Int32) (wd : Int32) (hq : md_ok z) : Met l yM_store wsM_store ({ frames := 3, cells := 0, slots := 0, locals := 80 }) (va_Pc [.ref k0, .int v, .int w, .int wd] (fun U => U.heap.size = sz ∧ va_P (dC, dI) vwCl [(k0, .inr (2, [.int th, .ref yb, .ref zb, .int a1, .int a2, .int a3, .int a4, .int a5, .int a6, .int fo])), (yb, .inl (cI, 65536, .inl y)), (zb, .inl (cI, 33, .inl z))] U.heap ∧ va_K (dC, dI) vwCl [(cI, .int)] U ∧ va_D (fun _ => True) [(k0, .inr (2, [.int th, .ref yb, .ref zb, .int a1, .int a2, .int a3, .int a4, .int a5, .int a6, .int fo])), (yb, .inl (cI, 65536, .inl y)), (zb, .inl (cI, 33, .inl z))])) (va_Qi (fun (a_ : Int32) (u : Int32 × (Nat → Int32) × Int32 × Int32 × Int32 × Int32 × Int32) => (a_, u) = s_M_store y z a1 a2 a3 a6 fo v w wd) (fun (u : Int32 × (Nat → Int32) × Int32 × Int32 × Int32 × Int32 × Int32) (t : State) => va_P (dC, dI) vwCl [(k0, .inr (2, [.int u.1, .ref yb, .ref zb, .int u.2.2.1, .int u.2.2.2.1, .int u.2.2.2.2.1, .int a4, .int a5, .int u.2.2.2.2.2.1, .int u.2.2.2.2.2.2])), (yb, .inl (cI, 65536, .inl u.2.1)), (zb, .inl (cI, 33, .inl z))] t.heap ∧ va_K (dC, dI) vwCl [(cI, .int)] t ∧ va_D (va_A [(k0, .inr (2, [.int th, .ref yb, .ref zb, .int a1, .int a2, .int a3, .int a4, .int a5, .int a6, .int fo])), (yb, .inl (cI, 65536, .inl y)), (zb, .inl (cI, 33, .inl z))] sz) [(k0, .inr (2, [.int u.1, .ref yb, .ref zb, .int u.2.2.1, .int u.2.2.2.1, .int u.2.2.2.2.1, .int a4, .int a5, .int u.2.2.2.2.2.1, .int u.2.2.2.2.2.2])), (yb, .inl (cI, 65536, .inl u.2.1)), (zb, .inl (cI, 33, .inl z))]) (va_A [(k0, .inr (2, [.int th, .ref yb, .ref zb, .int a1, .int a2, .int a3, .int a4, .int a5, .int a6, .int fo])), (yb, .inl (cI, 65536, .inl y)), (zb, .inl (cI, 33, .inl z))] sz)) 0 0 (va_A [(k0, .inr (2, [.int th, .ref yb, .ref zb, .int a1, .int a2, .int a3, .int a4, .int a5, .int a6, .int fo])), (yb, .inl (cI, 65536, .inl y)), (zb, .inl (cI, 33, .inl z))] sz) := by
  refine Met.ofW (cc := cM_store) (maxL := 4) (ret := (some .int)) (by decide) rfl ?_
  intro p e s m args below meth c s₁ B hml hv
  obtain ⟨rfl, hsz, hP, hK, hD0⟩ := hv
  have hx := B.exec
  have hb := B.bytes
  have hr := B.returns
  have hts := atoms_spec (ws := wsM_store) B.pre
  have hown : s.vm.findClass RX2 = some m.cls := findClass_of_methodNamed B.named
  have hlocks := B.notSynchronized
  subst hsz
  have hD := hD0.self (sz := s.heap.size)
  generalize hAe : va_A [(k0, .inr (2, [.int th, .ref yb, .ref zb, .int a1, .int a2, .int a3, .int a4, .int a5, .int a6, .int fo])), (yb, .inl (cI, 65536, .inl y)), (zb, .inl (cI, 33, .inl z))] s.heap.size = A at hD ⊢
  have hA : ∀ q : Nat, s.heap.size ≤ q → A q := fun q h => by rw [← hAe]; exact Or.inr h
  have hS : va_S A s.heap s.heap [] := va_S.rf
  have hP : va_P (dC, dI) vwCl [(k0, .inr (2, [.int th, .ref yb, .ref zb, .int a1, .int a2, .int a3, .int a4, .int a5, .int a6, .int fo])), (yb, .inl (cI, 65536, .inl y)), (zb, .inl (cI, 33, .inl z))] s.heap := hP
  have hl := lv_entry ([.ref k0, .int v, .int w, .int wd]) (n := 4) (Nat.le_of_ble_eq_true rfl)
  rw [lg_entry_eq]
  generalize (lg_sl ([.ref k0, .int v, .int w, .int wd]) ++ List.replicate (4 - (lg_sl ([.ref k0, .int v, .int w, .int wd])).length) Slot.unset).toArray = ls at hl ⊢
  have hl : lv_has ls 4 [(0, .ref k0), (1, .int v), (2, .int w), (3, .int wd)] := hl
  refine lv_aload_n hx hb dM_store_0 rfl (lv_at hl 0 rfl) ?_
  refine lv_iconst (v := 0) hx hb dM_store_1 (by decide) ?_
  refine va_put (D := (dC, dI)) (ci := 2) (v := .int 0) (ty := tyX2 0) (C := RX2) (T := TX2) (N := 10) hx hb hts miM_store_X2 tyX2 tyX2_ok nmX2 hown hK hP hD hS 0 rfl rfl 0 (by decide) (hts _ mbM_store_1) (fun _ h9 => h9) rfl (by decide +kernel) rfl rfl (Nat.le_of_ble_eq_true rfl) dM_store_2 (fun H locs hP hD hS => ?_)
  have hP : va_P (dC, dI) vwCl [(k0, .inr (2, [.int 0, .ref yb, .ref zb, .int a1, .int a2, .int a3, .int a4, .int a5, .int a6, .int fo])), (yb, .inl (cI, 65536, .inl y)), (zb, .inl (cI, 33, .inl z))] H := hP
  have hD : va_D A [(k0, .inr (2, [.int 0, .ref yb, .ref zb, .int a1, .int a2, .int a3, .int a4, .int a5, .int a6, .int fo])), (yb, .inl (cI, 65536, .inl y)), (zb, .inl (cI, 33, .inl z))] := hD
  refine lv_aload_n hx hb dM_store_5 rfl (lv_at hl 0 rfl) ?_
  refine lv_iload_n hx hb dM_store_6 rfl (lv_at hl 1 rfl) ?_
  refine lv_iconst (v := 2) hx hb dM_store_7 (by decide) ?_
  refine lv_iload_n hx hb dM_store_8 rfl (lv_at hl 3 rfl) ?_
  have hPc := hP.sub (ws' := [(k0, .inr (2, [.int 0, .ref yb, .ref zb, .int a1, .int a2, .int a3, .int a4, .int a5, .int a6, .int fo])), (yb, .inl (cI, 65536, .inl y)), (zb, .inl (cI, 33, .inl z))]) [0, 1, 2] rfl
  have hDc := hD.sub (ws' := [(k0, .inr (2, [.int 0, .ref yb, .ref zb, .int a1, .int a2, .int a3, .int a4, .int a5, .int a6, .int fo])), (yb, .inl (cI, 65536, .inl y)), (zb, .inl (cI, 33, .inl z))]) [0, 1, 2] (by decide) rfl
  have hFc := va_free (wc := [(k0, .inr (2, [.int 0, .ref yb, .ref zb, .int a1, .int a2, .int a3, .int a4, .int a5, .int a6, .int fo])), (yb, .inl (cI, 65536, .inl y)), (zb, .inl (cI, 33, .inl z))]) hD hS hA [0, 1, 2] rfl
  have hKc := hK.sub (tys' := [(cI, .int)]) [0] rfl
  refine va_calli (va_runV (As := [.int v, .int 2, .int wd]) (rest := []) ⟨hx, hb, hml, hown, hts⟩ (c_M_probe l dC dI (H.size) k0 yb zb cI y z 0 a1 a2 a3 a4 a5 a6 fo v 2 wd) (cwV 3 hts gM_store_M_probe rfl rfl rfl (by decide +kernel) ⟨Nat.le_of_ble_eq_true rfl, Nat.le_of_ble_eq_true rfl⟩) ⟨fun a U g mk q => by obtain ⟨q0, q1, qP, qK, qD⟩ := q; exact ⟨q0, q1, qP, va_K.moved (u := U) (U := U.calling g mk a) (Vm.Alike.refl U.vm) qK, qD⟩, va_recv hKc hPc (ci := 2) (q0 := 0) rfl rfl, fun U hU hW => ⟨rfl, by rw [hU], by rw [hU]; exact hPc, va_K.moved hW.alike hKc, hDc.weaken (fun _ _ _ _ => trivial)⟩⟩ rfl rfl hl.1 rfl (lv_room (Nat.le_of_ble_eq_true rfl)) dM_store_9 ⟨Nat.le_of_ble_eq_true rfl, Nat.le_of_ble_eq_true rfl⟩) hS (fun q _ h => hFc q h) hFc (fun r_1 u_3 t H1 locs ht hvm hw_2 hB hz1 hk1 hS => ?_)
  have e1_ : r_1 = (s_M_probe z a1 a2 a3 fo v 2 wd).1 := congrArg Prod.fst hw_2
  have e2_ : u_3 = (s_M_probe z a1 a2 a3 fo v 2 wd).2 := congrArg Prod.snd hw_2
  subst e1_ e2_
  obtain ⟨hP1, hK1, hD1⟩ := hB
  rw [ht] at hP1
  obtain ⟨hP, hD⟩ := va_join (wr := []) (w1 := [(k0, .inr (2, [.int 0, .ref yb, .ref zb, .int ((s_M_probe z a1 a2 a3 fo v 2 wd).2.1), .int ((s_M_probe z a1 a2 a3 fo v 2 wd).2.2.1), .int ((s_M_probe z a1 a2 a3 fo v 2 wd).2.2.2.1), .int a4, .int a5, .int a6, .int ((s_M_probe z a1 a2 a3 fo v 2 wd).2.2.2.2)])), (yb, .inl (cI, 65536, .inl y)), (zb, .inl (cI, 33, .inl z))]) hP hD [0, 1, 2] [] rfl rfl (by decide) (by decide) hk1 hFc hP1 hD1
  generalize H1 = H at hP hS ⊢
  have hP : va_P (dC, dI) vwCl [(k0, .inr (2, [.int 0, .ref yb, .ref zb, .int ((s_M_probe z a1 a2 a3 fo v 2 wd).2.1), .int ((s_M_probe z a1 a2 a3 fo v 2 wd).2.2.1), .int ((s_M_probe z a1 a2 a3 fo v 2 wd).2.2.2.1), .int a4, .int a5, .int a6, .int ((s_M_probe z a1 a2 a3 fo v 2 wd).2.2.2.2)])), (yb, .inl (cI, 65536, .inl y)), (zb, .inl (cI, 33, .inl z))] H := hP
  have hD : va_D A [(k0, .inr (2, [.int 0, .ref yb, .ref zb, .int ((s_M_probe z a1 a2 a3 fo v 2 wd).2.1), .int ((s_M_probe z a1 a2 a3 fo v 2 wd).2.2.1), .int ((s_M_probe z a1 a2 a3 fo v 2 wd).2.2.2.1), .int a4, .int a5, .int a6, .int ((s_M_probe z a1 a2 a3 fo v 2 wd).2.2.2.2)])), (yb, .inl (cI, 65536, .inl y)), (zb, .inl (cI, 33, .inl z))] := hD
  refine lv_if_ne (tgt := 17) hx hb dM_store_12 (by decide) (fun c_4 => ?_) (fun c_4 => ?_)
  · skip
    refine lv_aload_n hx hb dM_store_17 rfl (lv_at hl 0 rfl) ?_
    refine lv_dup hx hb dM_store_18 rfl ?_
    refine va_get (D := (dC, dI)) (ci := 2) (v := .int a6) (C := RX2) (T := TX2) (N := 10) hx hb hts miM_store_X2 hown hK hP 0 rfl rfl 8 (by decide) (hts _ mbM_store_2) (fun _ h9 => h9) rfl dM_store_19 ?_
    refine lv_iconst (v := 1) hx hb dM_store_22 (by decide) ?_
    refine lv_iadd hx hb dM_store_23 ?_
    refine va_put (D := (dC, dI)) (ci := 2) (v := .int (a6 + 1)) (ty := tyX2 8) (C := RX2) (T := TX2) (N := 10) hx hb hts miM_store_X2 tyX2 tyX2_ok nmX2 hown hK hP hD hS 0 rfl rfl 8 (by decide) (hts _ mbM_store_2) (fun _ h9 => h9) rfl (by decide +kernel) rfl rfl (Nat.le_of_ble_eq_true rfl) dM_store_24 (fun H locs hP hD hS => ?_)
    have hP : va_P (dC, dI) vwCl [(k0, .inr (2, [.int 0, .ref yb, .ref zb, .int ((s_M_probe z a1 a2 a3 fo v 2 wd).2.1), .int ((s_M_probe z a1 a2 a3 fo v 2 wd).2.2.1), .int ((s_M_probe z a1 a2 a3 fo v 2 wd).2.2.2.1), .int a4, .int a5, .int (a6 + 1), .int ((s_M_probe z a1 a2 a3 fo v 2 wd).2.2.2.2)])), (yb, .inl (cI, 65536, .inl y)), (zb, .inl (cI, 33, .inl z))] H := hP
    have hD : va_D A [(k0, .inr (2, [.int 0, .ref yb, .ref zb, .int ((s_M_probe z a1 a2 a3 fo v 2 wd).2.1), .int ((s_M_probe z a1 a2 a3 fo v 2 wd).2.2.1), .int ((s_M_probe z a1 a2 a3 fo v 2 wd).2.2.2.1), .int a4, .int a5, .int (a6 + 1), .int ((s_M_probe z a1 a2 a3 fo v 2 wd).2.2.2.2)])), (yb, .inl (cI, 65536, .inl y)), (zb, .inl (cI, 33, .inl z))] := hD
    refine lv_iload_n hx hb dM_store_27 rfl (lv_at hl 3 rfl) ?_
    refine lv_if_eq (tgt := 43) hx hb dM_store_28 (by decide) (fun c_5 => ?_) (fun c_5 => ?_)
    · skip
      refine lv_aload_n hx hb dM_store_43 rfl (lv_at hl 0 rfl) ?_
      refine va_get (D := (dC, dI)) (ci := 2) (v := .ref yb) (C := RX2) (T := TX2) (N := 10) hx hb hts miM_store_X2 hown hK hP 0 rfl rfl 1 (by decide) (hts _ mbM_store_3) (fun _ h9 => h9) rfl dM_store_44 ?_
      refine lv_aload_n hx hb dM_store_47 rfl (lv_at hl 0 rfl) ?_
      refine va_get (D := (dC, dI)) (ci := 2) (v := .int ((s_M_probe z a1 a2 a3 fo v 2 wd).2.2.2.2)) (C := RX2) (T := TX2) (N := 10) hx hb hts miM_store_X2 hown hK hP 0 rfl rfl 9 (by decide) (hts _ mbM_store_4) (fun _ h9 => h9) rfl dM_store_48 ?_
      refine lv_iload_n hx hb dM_store_51 rfl (lv_at hl 2 rfl) ?_
      refine lv_sipush (v := 255) hx hb dM_store_52 (by decide) ?_
      refine lv_iand hx hb dM_store_55 ?_
      refine va_iast hx hb hK hP hD hS 1 0 rfl rfl (pr_in hq c_4) dM_store_56 (fun H locs hP hD hS => ?_)
      have hP : va_P (dC, dI) vwCl [(k0, .inr (2, [.int 0, .ref yb, .ref zb, .int ((s_M_probe z a1 a2 a3 fo v 2 wd).2.1), .int ((s_M_probe z a1 a2 a3 fo v 2 wd).2.2.1), .int ((s_M_probe z a1 a2 a3 fo v 2 wd).2.2.2.1), .int a4, .int a5, .int (a6 + 1), .int ((s_M_probe z a1 a2 a3 fo v 2 wd).2.2.2.2)])), (yb, .inl (cI, 65536, .inl (upd y ((s_M_probe z a1 a2 a3 fo v 2 wd).2.2.2.2).toNatClampNeg (w &&& 255)))), (zb, .inl (cI, 33, .inl z))] H := hP
      have hD : va_D A [(k0, .inr (2, [.int 0, .ref yb, .ref zb, .int ((s_M_probe z a1 a2 a3 fo v 2 wd).2.1), .int ((s_M_probe z a1 a2 a3 fo v 2 wd).2.2.1), .int ((s_M_probe z a1 a2 a3 fo v 2 wd).2.2.2.1), .int a4, .int a5, .int (a6 + 1), .int ((s_M_probe z a1 a2 a3 fo v 2 wd).2.2.2.2)])), (yb, .inl (cI, 65536, .inl (upd y ((s_M_probe z a1 a2 a3 fo v 2 wd).2.2.2.2).toNatClampNeg (w &&& 255)))), (zb, .inl (cI, 33, .inl z))] := hD
      refine lv_aload_n hx hb dM_store_57 rfl (lv_at hl 0 rfl) ?_
      refine va_get (D := (dC, dI)) (ci := 2) (v := .int ((s_M_probe z a1 a2 a3 fo v 2 wd).2.2.2.2)) (C := RX2) (T := TX2) (N := 10) hx hb hts miM_store_X2 hown hK hP 0 rfl rfl 9 (by decide) (hts _ mbM_store_4) (fun _ h9 => h9) rfl dM_store_58 ?_
      exact W.iret (v := (s_M_probe z a1 a2 a3 fo v 2 wd).2.2.2.2) hx hb hr (fun t ht hW => ⟨⟨(s_M_probe z a1 a2 a3 fo v 2 wd).2.2.2.2, (0, upd y ((s_M_probe z a1 a2 a3 fo v 2 wd).2.2.2.2).toNatClampNeg (w &&& 255), (s_M_probe z a1 a2 a3 fo v 2 wd).2.1, (s_M_probe z a1 a2 a3 fo v 2 wd).2.2.1, (s_M_probe z a1 a2 a3 fo v 2 wd).2.2.2.1, a6 + 1, (s_M_probe z a1 a2 a3 fo v 2 wd).2.2.2.2), rfl, by simp only [s_M_store, if_neg c_4, if_pos c_5], by rw [ht]; exact hP, va_K.moved hW.alike hK, hD⟩, hS.F ht⟩) hS.2.2 dM_store_61
    · skip
      refine lv_aload_n hx hb dM_store_31 rfl (lv_at hl 0 rfl) ?_
      refine lv_aload_n hx hb dM_store_32 rfl (lv_at hl 0 rfl) ?_
      refine va_get (D := (dC, dI)) (ci := 2) (v := .int ((s_M_probe z a1 a2 a3 fo v 2 wd).2.2.2.2)) (C := RX2) (T := TX2) (N := 10) hx hb hts miM_store_X2 hown hK hP 0 rfl rfl 9 (by decide) (hts _ mbM_store_4) (fun _ h9 => h9) rfl dM_store_33 ?_
      refine lv_iload_n hx hb dM_store_36 rfl (lv_at hl 2 rfl) ?_
      have hPc := hP.sub (ws' := [(k0, .inr (2, [.int 0, .ref yb, .ref zb, .int ((s_M_probe z a1 a2 a3 fo v 2 wd).2.1), .int ((s_M_probe z a1 a2 a3 fo v 2 wd).2.2.1), .int ((s_M_probe z a1 a2 a3 fo v 2 wd).2.2.2.1), .int a4, .int a5, .int (a6 + 1), .int ((s_M_probe z a1 a2 a3 fo v 2 wd).2.2.2.2)])), (yb, .inl (cI, 65536, .inl y)), (zb, .inl (cI, 33, .inl z))]) [0, 1, 2] rfl
      have hDc := hD.sub (ws' := [(k0, .inr (2, [.int 0, .ref yb, .ref zb, .int ((s_M_probe z a1 a2 a3 fo v 2 wd).2.1), .int ((s_M_probe z a1 a2 a3 fo v 2 wd).2.2.1), .int ((s_M_probe z a1 a2 a3 fo v 2 wd).2.2.2.1), .int a4, .int a5, .int (a6 + 1), .int ((s_M_probe z a1 a2 a3 fo v 2 wd).2.2.2.2)])), (yb, .inl (cI, 65536, .inl y)), (zb, .inl (cI, 33, .inl z))]) [0, 1, 2] (by decide) rfl
      have hFc := va_free (wc := [(k0, .inr (2, [.int 0, .ref yb, .ref zb, .int ((s_M_probe z a1 a2 a3 fo v 2 wd).2.1), .int ((s_M_probe z a1 a2 a3 fo v 2 wd).2.2.1), .int ((s_M_probe z a1 a2 a3 fo v 2 wd).2.2.2.1), .int a4, .int a5, .int (a6 + 1), .int ((s_M_probe z a1 a2 a3 fo v 2 wd).2.2.2.2)])), (yb, .inl (cI, 65536, .inl y)), (zb, .inl (cI, 33, .inl z))]) hD hS hA [0, 1, 2] rfl
      have hKc := hK.sub (tys' := [(cI, .int)]) [0] rfl
      refine va_callv (va_runV (As := [.int ((s_M_probe z a1 a2 a3 fo v 2 wd).2.2.2.2), .int w]) (rest := []) ⟨hx, hb, hml, hown, hts⟩ (c_M_lay l dC dI (H.size) k0 yb zb cI y z 0 ((s_M_probe z a1 a2 a3 fo v 2 wd).2.1) ((s_M_probe z a1 a2 a3 fo v 2 wd).2.2.1) ((s_M_probe z a1 a2 a3 fo v 2 wd).2.2.2.1) a4 a5 (a6 + 1) ((s_M_probe z a1 a2 a3 fo v 2 wd).2.2.2.2) ((s_M_probe z a1 a2 a3 fo v 2 wd).2.2.2.2) w (pr_4 hq c_4 (fun q => c_5 q.1))) (cwV 2 hts gM_store_M_lay rfl rfl rfl (by decide +kernel) ⟨Nat.le_of_ble_eq_true rfl, Nat.le_of_ble_eq_true rfl⟩) ⟨fun a U g mk q => by obtain ⟨q0, q1, qP, qK, qD⟩ := q; exact ⟨q0, q1, qP, va_K.moved (u := U) (U := U.calling g mk a) (Vm.Alike.refl U.vm) qK, qD⟩, va_recv hKc hPc (ci := 2) (q0 := 0) rfl rfl, fun U hU hW => ⟨rfl, by rw [hU], by rw [hU]; exact hPc, va_K.moved hW.alike hKc, hDc.weaken (fun _ _ _ _ => trivial)⟩⟩ rfl rfl hl.1 rfl (lv_room (Nat.le_of_ble_eq_true rfl)) dM_store_37 ⟨Nat.le_of_ble_eq_true rfl, Nat.le_of_ble_eq_true rfl⟩) hS (fun q _ h => hFc q h) hFc (fun u_8 t H1 locs ht hvm hw_7 hB hz1 hk1 hS => ?_)
      subst hw_7
      obtain ⟨hP1, hK1, hD1⟩ := hB
      rw [ht] at hP1
      obtain ⟨hP, hD⟩ := va_join (wr := []) (w1 := [(k0, .inr (2, [.int 0, .ref yb, .ref zb, .int ((s_M_probe z a1 a2 a3 fo v 2 wd).2.1), .int ((s_M_probe z a1 a2 a3 fo v 2 wd).2.2.1), .int ((s_M_probe z a1 a2 a3 fo v 2 wd).2.2.2.1), .int a4, .int a5, .int (a6 + 1), .int ((s_M_probe z a1 a2 a3 fo v 2 wd).2.2.2.2)])), (yb, .inl (cI, 65536, .inl (s_M_lay y ((s_M_probe z a1 a2 a3 fo v 2 wd).2.2.2.2) w))), (zb, .inl (cI, 33, .inl z))]) hP hD [0, 1, 2] [] rfl rfl (by decide) (by decide) hk1 hFc hP1 hD1
      generalize H1 = H at hP hS ⊢
      have hP : va_P (dC, dI) vwCl [(k0, .inr (2, [.int 0, .ref yb, .ref zb, .int ((s_M_probe z a1 a2 a3 fo v 2 wd).2.1), .int ((s_M_probe z a1 a2 a3 fo v 2 wd).2.2.1), .int ((s_M_probe z a1 a2 a3 fo v 2 wd).2.2.2.1), .int a4, .int a5, .int (a6 + 1), .int ((s_M_probe z a1 a2 a3 fo v 2 wd).2.2.2.2)])), (yb, .inl (cI, 65536, .inl (s_M_lay y ((s_M_probe z a1 a2 a3 fo v 2 wd).2.2.2.2) w))), (zb, .inl (cI, 33, .inl z))] H := hP
      have hD : va_D A [(k0, .inr (2, [.int 0, .ref yb, .ref zb, .int ((s_M_probe z a1 a2 a3 fo v 2 wd).2.1), .int ((s_M_probe z a1 a2 a3 fo v 2 wd).2.2.1), .int ((s_M_probe z a1 a2 a3 fo v 2 wd).2.2.2.1), .int a4, .int a5, .int (a6 + 1), .int ((s_M_probe z a1 a2 a3 fo v 2 wd).2.2.2.2)])), (yb, .inl (cI, 65536, .inl (s_M_lay y ((s_M_probe z a1 a2 a3 fo v 2 wd).2.2.2.2) w))), (zb, .inl (cI, 33, .inl z))] := hD
      refine lv_goto (tgt := 57) hx hb dM_store_40 (by decide) ?_
      refine lv_aload_n hx hb dM_store_57 rfl (lv_at hl 0 rfl) ?_
      refine va_get (D := (dC, dI)) (ci := 2) (v := .int ((s_M_probe z a1 a2 a3 fo v 2 wd).2.2.2.2)) (C := RX2) (T := TX2) (N := 10) hx hb hts miM_store_X2 hown hK hP 0 rfl rfl 9 (by decide) (hts _ mbM_store_4) (fun _ h9 => h9) rfl dM_store_58 ?_
      exact W.iret (v := (s_M_probe z a1 a2 a3 fo v 2 wd).2.2.2.2) hx hb hr (fun t ht hW => ⟨⟨(s_M_probe z a1 a2 a3 fo v 2 wd).2.2.2.2, (0, (s_M_lay y ((s_M_probe z a1 a2 a3 fo v 2 wd).2.2.2.2) w), (s_M_probe z a1 a2 a3 fo v 2 wd).2.1, (s_M_probe z a1 a2 a3 fo v 2 wd).2.2.1, (s_M_probe z a1 a2 a3 fo v 2 wd).2.2.2.1, a6 + 1, (s_M_probe z a1 a2 a3 fo v 2 wd).2.2.2.2), rfl, by simp only [s_M_store, if_neg c_4, if_neg c_5], by rw [ht]; exact hP, va_K.moved hW.alike hK, hD⟩, hS.F ht⟩) hS.2.2 dM_store_61
  · skip
    refine lv_iconst (v := (-1)) hx hb dM_store_15 (by decide) ?_
    exact W.iret (v := (-1)) hx hb hr (fun t ht hW => ⟨⟨(-1), (0, y, (s_M_probe z a1 a2 a3 fo v 2 wd).2.1, (s_M_probe z a1 a2 a3 fo v 2 wd).2.2.1, (s_M_probe z a1 a2 a3 fo v 2 wd).2.2.2.1, a6, (s_M_probe z a1 a2 a3 fo v 2 wd).2.2.2.2), rfl, by simp only [s_M_store, if_pos c_4], by rw [ht]; exact hP, va_K.moved hW.alike hK, hD⟩, hS.F ht⟩) hS.2.2 dM_store_16
