set_option maxRecDepth 100000 in
theorem miX1_probe_X1 : ∀ w ∈ u_ws RX1 TX1 8, w ∈ wsX1_probe := by decide +kernel
set_option maxRecDepth 100000 in
theorem mbX1_probe_1 : (.fieldLink RX1 68 "SoftMaps" "faults" "I" : Cond) ∈ wsX1_probe := by decide +kernel
set_option maxRecDepth 100000 in
theorem mbX1_probe_2 : (.fieldLink RX1 71 "SoftMaps" "latestFault" "I" : Cond) ∈ wsX1_probe := by decide +kernel
set_option maxRecDepth 100000 in
theorem mbX1_probe_3 : (.fieldLink RX1 74 "SoftMaps" "faultAddress" "I" : Cond) ∈ wsX1_probe := by decide +kernel
def s_X1_probe (f : Nat → Int32) (fa fl fd : Int32) (v : Int32) (how : Int32) (wd : Int32) : Int32 × (Int32 × Int32 × Int32) :=
  if 0 ≤ s_X1_locate f v how wd then
    (s_X1_locate f v how wd, (fa, fl, fd))
  else
    (s_X1_locate f v how wd, (fa + 1, -(s_X1_locate f v how wd), v))
set_option maxHeartbeats 4000000 in
set_option maxRecDepth 100000 in
theorem c_X1_probe (l : Launch) (dC : Nat → ClassId) (dI : Nat → Nat → Nat) (sz : Nat) (h0 me sp : Nat) (cI : ClassId) (f : Nat → Int32) (fa fl fd cr lo so : Int32) (v : Int32) (how : Int32) (wd : Int32)  : Met l yX1_probe wsX1_probe ({ frames := 3, cells := 0, slots := 0, locals := 66 }) (va_Pc [.ref h0, .int v, .int how, .int wd] (fun U => U.heap.size = sz ∧ va_P (dC, dI) vwCl [(h0, .inr (1, [.ref me, .ref sp, .int fa, .int fl, .int fd, .int cr, .int lo, .int so])), (sp, .inl (cI, 33, .inl f))] U.heap ∧ va_K (dC, dI) vwCl [(cI, .int)] U ∧ va_D (fun _ => True) [(h0, .inr (1, [.ref me, .ref sp, .int fa, .int fl, .int fd, .int cr, .int lo, .int so])), (sp, .inl (cI, 33, .inl f))])) (va_Qi (fun (a_ : Int32) (u : Int32 × Int32 × Int32) => (a_, u) = s_X1_probe f fa fl fd v how wd) (fun (u : Int32 × Int32 × Int32) (t : State) => va_P (dC, dI) vwCl [(h0, .inr (1, [.ref me, .ref sp, .int u.1, .int u.2.1, .int u.2.2, .int cr, .int lo, .int so])), (sp, .inl (cI, 33, .inl f))] t.heap ∧ va_K (dC, dI) vwCl [(cI, .int)] t ∧ va_D (va_A [(h0, .inr (1, [.ref me, .ref sp, .int fa, .int fl, .int fd, .int cr, .int lo, .int so])), (sp, .inl (cI, 33, .inl f))] sz) [(h0, .inr (1, [.ref me, .ref sp, .int u.1, .int u.2.1, .int u.2.2, .int cr, .int lo, .int so])), (sp, .inl (cI, 33, .inl f))]) (va_A [(h0, .inr (1, [.ref me, .ref sp, .int fa, .int fl, .int fd, .int cr, .int lo, .int so])), (sp, .inl (cI, 33, .inl f))] sz)) 0 0 (va_A [(h0, .inr (1, [.ref me, .ref sp, .int fa, .int fl, .int fd, .int cr, .int lo, .int so])), (sp, .inl (cI, 33, .inl f))] sz) := by
  refine Met.ofW (cc := cX1_probe) (maxL := 5) (ret := (some .int)) (by decide) rfl ?_
  intro p e s m args below meth c s₁ B hml hv
  obtain ⟨rfl, hsz, hP, hK, hD0⟩ := hv
  have hx := B.exec
  have hb := B.bytes
  have hr := B.returns
  have hts := atoms_spec (ws := wsX1_probe) B.pre
  have hown : s.vm.findClass RX1 = some m.cls := findClass_of_methodNamed B.named
  have hlocks := B.notSynchronized
  subst hsz
  have hD := hD0.self (sz := s.heap.size)
  generalize hAe : va_A [(h0, .inr (1, [.ref me, .ref sp, .int fa, .int fl, .int fd, .int cr, .int lo, .int so])), (sp, .inl (cI, 33, .inl f))] s.heap.size = A at hD ⊢
  have hA : ∀ q : Nat, s.heap.size ≤ q → A q := fun q h => by rw [← hAe]; exact Or.inr h
  have hS : va_S A s.heap s.heap [] := va_S.rf
  have hP : va_P (dC, dI) vwCl [(h0, .inr (1, [.ref me, .ref sp, .int fa, .int fl, .int fd, .int cr, .int lo, .int so])), (sp, .inl (cI, 33, .inl f))] s.heap := hP
  have hl := lv_entry ([.ref h0, .int v, .int how, .int wd]) (n := 5) (Nat.le_of_ble_eq_true rfl)
  rw [lg_entry_eq]
  generalize (lg_sl ([.ref h0, .int v, .int how, .int wd]) ++ List.replicate (5 - (lg_sl ([.ref h0, .int v, .int how, .int wd])).length) Slot.unset).toArray = ls at hl ⊢
  have hl : lv_has ls 5 [(0, .ref h0), (1, .int v), (2, .int how), (3, .int wd)] := hl
  refine lv_aload_n hx hb dX1_probe_0 rfl (lv_at hl 0 rfl) ?_
  refine lv_iload_n hx hb dX1_probe_1 rfl (lv_at hl 1 rfl) ?_
  refine lv_iload_n hx hb dX1_probe_2 rfl (lv_at hl 2 rfl) ?_
  refine lv_iload_n hx hb dX1_probe_3 rfl (lv_at hl 3 rfl) ?_
  have hPc := hP.sub (ws' := [(h0, .inr (1, [.ref me, .ref sp, .int fa, .int fl, .int fd, .int cr, .int lo, .int so])), (sp, .inl (cI, 33, .inl f))]) [0, 1] rfl
  have hKc := hK.sub (tys' := [(cI, .int)]) [0] rfl
  refine vp_callSi (va_Run.run (va_runV (As := [.int v, .int how, .int wd]) (rest := []) ⟨hx, hb, hml, hown, hts⟩ (c_X1_locate l dC dI h0 me sp cI f fa fl fd cr lo so v how wd) (cwV 3 hts gX1_probe_X1_locate rfl rfl rfl (by decide +kernel) ⟨Nat.le_of_ble_eq_true rfl, Nat.le_of_ble_eq_true rfl⟩) ⟨fun a U g mk q => by obtain ⟨q0, qP, qK⟩ := q; exact ⟨q0, qP, va_K.moved (u := U) (U := U.calling g mk a) (Vm.Alike.refl U.vm) qK⟩, va_recv hKc hPc (ci := 1) (q0 := 0) rfl rfl, fun U hU hW => ⟨rfl, by rw [hU]; exact hPc, va_K.moved hW.alike hKc⟩⟩ rfl rfl hl.1 rfl (lv_room (Nat.le_of_ble_eq_true rfl)) dX1_probe_4 ⟨Nat.le_of_ble_eq_true rfl, Nat.le_of_ble_eq_true rfl⟩)) (fun r_1 hw_2 => ?_)
  subst hw_2
  refine lv_istore (lv' := [(4, .int (s_X1_locate f v how wd)), (0, .ref h0), (1, .int v), (2, .int how), (3, .int wd)]) hx hb dX1_probe_7 hl (by decide) rfl (fun ls hl => ?_)
  refine lv_iload hx hb dX1_probe_9 (lv_at hl 0 rfl) ?_
  refine lv_if_ge (tgt := 36) hx hb dX1_probe_11 (by decide) (fun c_3 => ?_) (fun c_3 => ?_)
  · skip
    refine lv_iload hx hb dX1_probe_36 (lv_at hl 0 rfl) ?_
    exact W.iret (v := s_X1_locate f v how wd) hx hb hr (fun t ht hW => ⟨⟨s_X1_locate f v how wd, (fa, fl, fd), rfl, by simp only [s_X1_probe, if_pos c_3], by rw [ht]; exact hP, va_K.moved hW.alike hK, hD⟩, hS.F ht⟩) hS.2.2 dX1_probe_38
  · skip
    refine lv_aload_n hx hb dX1_probe_14 rfl (lv_at hl 1 rfl) ?_
    refine lv_dup hx hb dX1_probe_15 rfl ?_
    refine va_get (D := (dC, dI)) (ci := 1) (v := .int fa) (C := RX1) (T := TX1) (N := 8) hx hb hts miX1_probe_X1 hown hK hP 0 rfl rfl 2 (by decide) (hts _ mbX1_probe_1) (fun _ h9 => h9) rfl dX1_probe_16 ?_
    refine lv_iconst (v := 1) hx hb dX1_probe_19 (by decide) ?_
    refine lv_iadd hx hb dX1_probe_20 ?_
    refine va_put (D := (dC, dI)) (ci := 1) (v := .int (fa + 1)) (ty := tyX1 2) (C := RX1) (T := TX1) (N := 8) hx hb hts miX1_probe_X1 tyX1 tyX1_ok nmX1 hown hK hP hD hS 0 rfl rfl 2 (by decide) (hts _ mbX1_probe_1) (fun _ h9 => h9) rfl (by decide +kernel) rfl rfl (Nat.le_of_ble_eq_true rfl) dX1_probe_21 (fun H locs hP hD hS => ?_)
    have hP : va_P (dC, dI) vwCl [(h0, .inr (1, [.ref me, .ref sp, .int (fa + 1), .int fl, .int fd, .int cr, .int lo, .int so])), (sp, .inl (cI, 33, .inl f))] H := hP
    have hD : va_D A [(h0, .inr (1, [.ref me, .ref sp, .int (fa + 1), .int fl, .int fd, .int cr, .int lo, .int so])), (sp, .inl (cI, 33, .inl f))] := hD
    refine lv_aload_n hx hb dX1_probe_24 rfl (lv_at hl 1 rfl) ?_
    refine lv_iload hx hb dX1_probe_25 (lv_at hl 0 rfl) ?_
    refine lv_ineg hx hb dX1_probe_27 ?_
    refine va_put (D := (dC, dI)) (ci := 1) (v := .int (-(s_X1_locate f v how wd))) (ty := tyX1 3) (C := RX1) (T := TX1) (N := 8) hx hb hts miX1_probe_X1 tyX1 tyX1_ok nmX1 hown hK hP hD hS 0 rfl rfl 3 (by decide) (hts _ mbX1_probe_2) (fun _ h9 => h9) rfl (by decide +kernel) rfl rfl (Nat.le_of_ble_eq_true rfl) dX1_probe_28 (fun H locs hP hD hS => ?_)
    have hP : va_P (dC, dI) vwCl [(h0, .inr (1, [.ref me, .ref sp, .int (fa + 1), .int (-(s_X1_locate f v how wd)), .int fd, .int cr, .int lo, .int so])), (sp, .inl (cI, 33, .inl f))] H := hP
    have hD : va_D A [(h0, .inr (1, [.ref me, .ref sp, .int (fa + 1), .int (-(s_X1_locate f v how wd)), .int fd, .int cr, .int lo, .int so])), (sp, .inl (cI, 33, .inl f))] := hD
    refine lv_aload_n hx hb dX1_probe_31 rfl (lv_at hl 1 rfl) ?_
    refine lv_iload_n hx hb dX1_probe_32 rfl (lv_at hl 2 rfl) ?_
    refine va_put (D := (dC, dI)) (ci := 1) (v := .int v) (ty := tyX1 4) (C := RX1) (T := TX1) (N := 8) hx hb hts miX1_probe_X1 tyX1 tyX1_ok nmX1 hown hK hP hD hS 0 rfl rfl 4 (by decide) (hts _ mbX1_probe_3) (fun _ h9 => h9) rfl (by decide +kernel) rfl rfl (Nat.le_of_ble_eq_true rfl) dX1_probe_33 (fun H locs hP hD hS => ?_)
    have hP : va_P (dC, dI) vwCl [(h0, .inr (1, [.ref me, .ref sp, .int (fa + 1), .int (-(s_X1_locate f v how wd)), .int v, .int cr, .int lo, .int so])), (sp, .inl (cI, 33, .inl f))] H := hP
    have hD : va_D A [(h0, .inr (1, [.ref me, .ref sp, .int (fa + 1), .int (-(s_X1_locate f v how wd)), .int v, .int cr, .int lo, .int so])), (sp, .inl (cI, 33, .inl f))] := hD
    refine lv_iload hx hb dX1_probe_36 (lv_at hl 0 rfl) ?_
    exact W.iret (v := s_X1_locate f v how wd) hx hb hr (fun t ht hW => ⟨⟨s_X1_locate f v how wd, (fa + 1, -(s_X1_locate f v how wd), v), rfl, by simp only [s_X1_probe, if_neg c_3], by rw [ht]; exact hP, va_K.moved hW.alike hK, hD⟩, hS.F ht⟩) hS.2.2 dX1_probe_38
