theorem in_mk {k : Int32} (h0 : ¬ k < 0) (h1 : ¬ 32 < k) : vp_in k 33 := by
  rw [vp_in_iff]
  rw [Int32.lt_iff_toInt_lt] at h0 h1
  have e0 : (0 : Int32).toInt = 0 := by decide
  have e1 : (32 : Int32).toInt = 32 := by decide
  omega
theorem mset_n (v : Int32) : ∃ j : Nat, j < 8 ∧ ush v 10 - ush v 10 / 8 * 8 = nI j := by
  have e : ush v 10 = nI (v.toBitVec.toNat / 2 ^ 10) := by
    have h := pk_ushr v 10 10 (by decide)
    have h2 : (ush v 10).toBitVec.toNat = v.toBitVec.toNat / 2 ^ 10 := h
    apply Int32.toBitVec_inj.mp
    apply BitVec.eq_of_toNat_eq
    rw [h2, pk_tn]
    have := v.toBitVec.isLt
    omega
  have hv := v.toBitVec.isLt
  rw [e, show (8 : Int32) = nI 8 from rfl, pk_rem (by omega) (by omega) (by omega)]
  exact ⟨_, Nat.mod_lt _ (by omega), rfl⟩
theorem in_ms (a : Nat) (ha : a ≤ 25) (A : Int32) (hA : A = nI a) (v : Int32) : vp_in (A + (ush v 10 - ush v 10 / 8 * 8)) 33 := by
  obtain ⟨j, hj, e⟩ := mset_n v
  exact pk_in (a + j) 33 (by omega) (by rw [e, hA, nI_add])
/-- where a kind's sets begin -/
def fr_ok (x : Int32) : Prop := x = nI 0 ∨ x = nI 16
theorem in_fr {x : Int32} (h : fr_ok x) (k : Nat) (hk : k < 8) (K : Int32) (hK : K = nI k) : vp_in (x + K) 33 := by
  rcases h with h | h
  · exact pk_in (0 + k) 33 (by omega) (by rw [h, hK, nI_add])
  · exact pk_in (16 + k) 33 (by omega) (by rw [h, hK, nI_add])
set_option maxRecDepth 100000 in
theorem miM_set_X2 : ∀ w ∈ u_ws RX2 TX2 10, w ∈ wsM_set := by decide +kernel
set_option maxRecDepth 100000 in
theorem mbM_set_1 : (.fieldLink RX2 17 "SoftMapsModel" "thrown" "I" : Cond) ∈ wsM_set := by decide +kernel
set_option maxRecDepth 100000 in
theorem mbM_set_2 : (.fieldLink RX2 14 "SoftMapsModel" "specials" "[I" : Cond) ∈ wsM_set := by decide +kernel
def s_M_set (z : Nat → Int32) (k : Int32) (w : Int32) : Int32 × Int32 × (Nat → Int32) :=
  if k < 0 then
    (0, (0, z))
  else
    if k ≤ 32 then
      if k = 32 then
        (1, (0, upd z k.toNatClampNeg (w &&& 7)))
      else
        (1, (0, upd z k.toNatClampNeg w))
    else
      (0, (0, z))
set_option maxHeartbeats 4000000 in
set_option maxRecDepth 100000 in
theorem c_M_set (l : Launch) (dC : Nat → ClassId) (dI : Nat → Nat → Nat) (sz : Nat) (k0 yb zb : Nat) (cI : ClassId) (y z : Nat → Int32) (th a1 a2 a3 a4 a5 a6 fo : Int32) (k : Int32) (w : Int32)  : Met l yM_set wsM_set ({ frames := 0, cells := 0, slots := 0, locals := 0 }) (va_Pc [.ref k0, .int k, .int w] (fun U => U.heap.size = sz ∧ va_P (dC, dI) vwCl [(k0, .inr (2, [.int th, .ref yb, .ref zb, .int a1, .int a2, .int a3, .int a4, .int a5, .int a6, .int fo])), (yb, .inl (cI, 65536, .inl y)), (zb, .inl (cI, 33, .inl z))] U.heap ∧ va_K (dC, dI) vwCl [(cI, .int)] U ∧ va_D (fun _ => True) [(k0, .inr (2, [.int th, .ref yb, .ref zb, .int a1, .int a2, .int a3, .int a4, .int a5, .int a6, .int fo])), (yb, .inl (cI, 65536, .inl y)), (zb, .inl (cI, 33, .inl z))])) (va_Qi (fun (a_ : Int32) (u : Int32 × (Nat → Int32)) => (a_, u) = s_M_set z k w) (fun (u : Int32 × (Nat → Int32)) (t : State) => va_P (dC, dI) vwCl [(k0, .inr (2, [.int u.1, .ref yb, .ref zb, .int a1, .int a2, .int a3, .int a4, .int a5, .int a6, .int fo])), (yb, .inl (cI, 65536, .inl y)), (zb, .inl (cI, 33, .inl u.2))] t.heap ∧ va_K (dC, dI) vwCl [(cI, .int)] t ∧ va_D (va_A [(k0, .inr (2, [.int th, .ref yb, .ref zb, .int a1, .int a2, .int a3, .int a4, .int a5, .int a6, .int fo])), (yb, .inl (cI, 65536, .inl y)), (zb, .inl (cI, 33, .inl z))] sz) [(k0, .inr (2, [.int u.1, .ref yb, .ref zb, .int a1, .int a2, .int a3, .int a4, .int a5, .int a6, .int fo])), (yb, .inl (cI, 65536, .inl y)), (zb, .inl (cI, 33, .inl u.2))]) (va_A [(k0, .inr (2, [.int th, .ref yb, .ref zb, .int a1, .int a2, .int a3, .int a4, .int a5, .int a6, .int fo])), (yb, .inl (cI, 65536, .inl y)), (zb, .inl (cI, 33, .inl z))] sz)) 0 0 (va_A [(k0, .inr (2, [.int th, .ref yb, .ref zb, .int a1, .int a2, .int a3, .int a4, .int a5, .int a6, .int fo])), (yb, .inl (cI, 65536, .inl y)), (zb, .inl (cI, 33, .inl z))] sz) := by
  refine Met.ofW (cc := cM_set) (maxL := 3) (ret := (some .boolean)) (by decide) rfl ?_
  intro p e s m args below meth c s₁ B hml hv
  obtain ⟨rfl, hsz, hP, hK, hD0⟩ := hv
  have hx := B.exec
  have hb := B.bytes
  have hr := B.returns
  have hts := atoms_spec (ws := wsM_set) B.pre
  have hown : s.vm.findClass RX2 = some m.cls := findClass_of_methodNamed B.named
  have hlocks := B.notSynchronized
  subst hsz
  have hD := hD0.self (sz := s.heap.size)
  generalize hAe : va_A [(k0, .inr (2, [.int th, .ref yb, .ref zb, .int a1, .int a2, .int a3, .int a4, .int a5, .int a6, .int fo])), (yb, .inl (cI, 65536, .inl y)), (zb, .inl (cI, 33, .inl z))] s.heap.size = A at hD ⊢
  have hA : ∀ q : Nat, s.heap.size ≤ q → A q := fun q h => by rw [← hAe]; exact Or.inr h
  have hS : va_S A s.heap s.heap [] := va_S.rf
  have hP : va_P (dC, dI) vwCl [(k0, .inr (2, [.int th, .ref yb, .ref zb, .int a1, .int a2, .int a3, .int a4, .int a5, .int a6, .int fo])), (yb, .inl (cI, 65536, .inl y)), (zb, .inl (cI, 33, .inl z))] s.heap := hP
  have hl := lv_entry ([.ref k0, .int k, .int w]) (n := 3) (Nat.le_of_ble_eq_true rfl)
  rw [lg_entry_eq]
  generalize (lg_sl ([.ref k0, .int k, .int w]) ++ List.replicate (3 - (lg_sl ([.ref k0, .int k, .int w])).length) Slot.unset).toArray = ls at hl ⊢
  have hl : lv_has ls 3 [(0, .ref k0), (1, .int k), (2, .int w)] := hl
  refine lv_aload_n hx hb dM_set_0 rfl (lv_at hl 0 rfl) ?_
  refine lv_iconst (v := 0) hx hb dM_set_1 (by decide) ?_
  refine va_put (D := (dC, dI)) (ci := 2) (v := .int 0) (ty := tyX2 0) (C := RX2) (T := TX2) (N := 10) hx hb hts miM_set_X2 tyX2 tyX2_ok nmX2 hown hK hP hD hS 0 rfl rfl 0 (by decide) (hts _ mbM_set_1) (fun _ h9 => h9) rfl (by decide +kernel) rfl rfl (Nat.le_of_ble_eq_true rfl) dM_set_2 (fun H locs hP hD hS => ?_)
  have hP : va_P (dC, dI) vwCl [(k0, .inr (2, [.int 0, .ref yb, .ref zb, .int a1, .int a2, .int a3, .int a4, .int a5, .int a6, .int fo])), (yb, .inl (cI, 65536, .inl y)), (zb, .inl (cI, 33, .inl z))] H := hP
  have hD : va_D A [(k0, .inr (2, [.int 0, .ref yb, .ref zb, .int a1, .int a2, .int a3, .int a4, .int a5, .int a6, .int fo])), (yb, .inl (cI, 65536, .inl y)), (zb, .inl (cI, 33, .inl z))] := hD
  refine lv_iload_n hx hb dM_set_5 rfl (lv_at hl 1 rfl) ?_
  refine lv_if_lt (tgt := 15) hx hb dM_set_6 (by decide) (fun c_1 => ?_) (fun c_1 => ?_)
  · skip
    refine lv_iconst (v := 0) hx hb dM_set_15 (by decide) ?_
    exact W.zret (v := 0) hx hb hr rfl (fun t ht hW => ⟨⟨0, (0, z), rfl, by simp only [s_M_set, if_pos c_1], by rw [ht]; exact hP, va_K.moved hW.alike hK, hD⟩, hS.F ht⟩) hS.2.2 dM_set_16
  · skip
    refine lv_iload_n hx hb dM_set_9 rfl (lv_at hl 1 rfl) ?_
    refine lv_bipush (v := 32) hx hb dM_set_10 (by decide) ?_
    refine lv_icmp_le (tgt := 17) hx hb dM_set_12 (by decide) (fun c_2 => ?_) (fun c_2 => ?_)
    · skip
      refine lv_aload_n hx hb dM_set_17 rfl (lv_at hl 0 rfl) ?_
      refine va_get (D := (dC, dI)) (ci := 2) (v := .ref zb) (C := RX2) (T := TX2) (N := 10) hx hb hts miM_set_X2 hown hK hP 0 rfl rfl 2 (by decide) (hts _ mbM_set_2) (fun _ h9 => h9) rfl dM_set_18 ?_
      refine lv_iload_n hx hb dM_set_21 rfl (lv_at hl 1 rfl) ?_
      refine lv_iload_n hx hb dM_set_22 rfl (lv_at hl 1 rfl) ?_
      refine lv_bipush (v := 32) hx hb dM_set_23 (by decide) ?_
      refine lv_icmp_ne (tgt := 35) hx hb dM_set_25 (by decide) (fun c_3 => ?_) (fun c_3 => ?_)
      · skip
        refine lv_iload_n hx hb dM_set_35 rfl (lv_at hl 2 rfl) ?_
        refine va_iast hx hb hK hP hD hS 2 0 rfl rfl (in_mk c_1 (Int32.not_lt.mpr c_2)) dM_set_36 (fun H locs hP hD hS => ?_)
        have hP : va_P (dC, dI) vwCl [(k0, .inr (2, [.int 0, .ref yb, .ref zb, .int a1, .int a2, .int a3, .int a4, .int a5, .int a6, .int fo])), (yb, .inl (cI, 65536, .inl y)), (zb, .inl (cI, 33, .inl (upd z k.toNatClampNeg w)))] H := hP
        have hD : va_D A [(k0, .inr (2, [.int 0, .ref yb, .ref zb, .int a1, .int a2, .int a3, .int a4, .int a5, .int a6, .int fo])), (yb, .inl (cI, 65536, .inl y)), (zb, .inl (cI, 33, .inl (upd z k.toNatClampNeg w)))] := hD
        refine lv_iconst (v := 1) hx hb dM_set_37 (by decide) ?_
        exact W.zret (v := 1) hx hb hr rfl (fun t ht hW => ⟨⟨1, (0, upd z k.toNatClampNeg w), rfl, by simp only [s_M_set, if_neg c_1, if_pos c_2, if_neg c_3], by rw [ht]; exact hP, va_K.moved hW.alike hK, hD⟩, hS.F ht⟩) hS.2.2 dM_set_38
      · skip
        refine lv_iload_n hx hb dM_set_28 rfl (lv_at hl 2 rfl) ?_
        refine lv_bipush (v := 7) hx hb dM_set_29 (by decide) ?_
        refine lv_iand hx hb dM_set_31 ?_
        refine lv_goto (tgt := 36) hx hb dM_set_32 (by decide) ?_
        refine va_iast hx hb hK hP hD hS 2 0 rfl rfl (in_mk c_1 (Int32.not_lt.mpr c_2)) dM_set_36 (fun H locs hP hD hS => ?_)
        have hP : va_P (dC, dI) vwCl [(k0, .inr (2, [.int 0, .ref yb, .ref zb, .int a1, .int a2, .int a3, .int a4, .int a5, .int a6, .int fo])), (yb, .inl (cI, 65536, .inl y)), (zb, .inl (cI, 33, .inl (upd z k.toNatClampNeg (w &&& 7))))] H := hP
        have hD : va_D A [(k0, .inr (2, [.int 0, .ref yb, .ref zb, .int a1, .int a2, .int a3, .int a4, .int a5, .int a6, .int fo])), (yb, .inl (cI, 65536, .inl y)), (zb, .inl (cI, 33, .inl (upd z k.toNatClampNeg (w &&& 7))))] := hD
        refine lv_iconst (v := 1) hx hb dM_set_37 (by decide) ?_
        exact W.zret (v := 1) hx hb hr rfl (fun t ht hW => ⟨⟨1, (0, upd z k.toNatClampNeg (w &&& 7)), rfl, by simp only [s_M_set, if_neg c_1, if_pos c_2, if_pos c_3], by rw [ht]; exact hP, va_K.moved hW.alike hK, hD⟩, hS.F ht⟩) hS.2.2 dM_set_38
    · skip
      refine lv_iconst (v := 0) hx hb dM_set_15 (by decide) ?_
      exact W.zret (v := 0) hx hb hr rfl (fun t ht hW => ⟨⟨0, (0, z), rfl, by simp only [s_M_set, if_neg c_1, if_neg c_2], by rw [ht]; exact hP, va_K.moved hW.alike hK, hD⟩, hS.F ht⟩) hS.2.2 dM_set_16
set_option maxRecDepth 100000 in
theorem miM_map_X2 : ∀ w ∈ u_ws RX2 TX2 10, w ∈ wsM_map := by decide +kernel
set_option maxRecDepth 100000 in
theorem mbM_map_1 : (.fieldLink RX2 17 "SoftMapsModel" "thrown" "I" : Cond) ∈ wsM_map := by decide +kernel
set_option maxRecDepth 100000 in
theorem mbM_map_2 : (.fieldLink RX2 14 "SoftMapsModel" "specials" "[I" : Cond) ∈ wsM_map := by decide +kernel
def s_M_map (z : Nat → Int32) (v : Int32) (fm : Int32) (ri : Int32) (dd : Int32) : Int32 × Int32 × (Nat → Int32) :=
  if fm < 0 then
    ((-1), (0, z))
  else
    if 63 < fm then
      ((-1), (0, z))
    else
      if ri < 0 then
        ((-1), (0, z))
      else
        if ri ≤ 15 then
          if dd = 0 then
            ((ush v 10) - (ush v 10) / 8 * 8, (0, upd (upd z (0 + ((ush v 10) - (ush v 10) / 8 * 8)).toNatClampNeg (((v >>> ((10 : Int32) &&& 31)) <<< ((10 : Int32) &&& 31)) ||| 1)) ((0 + 8) + ((ush v 10) - (ush v 10) / 8 * 8)).toNatClampNeg ((1024 * fm) + ri)))
          else
            ((ush v 10) - (ush v 10) / 8 * 8, (0, upd (upd z (16 + ((ush v 10) - (ush v 10) / 8 * 8)).toNatClampNeg (((v >>> ((10 : Int32) &&& 31)) <<< ((10 : Int32) &&& 31)) ||| 1)) ((16 + 8) + ((ush v 10) - (ush v 10) / 8 * 8)).toNatClampNeg ((1024 * fm) + ri)))
        else
          ((-1), (0, z))
set_option maxHeartbeats 4000000 in
set_option maxRecDepth 100000 in
theorem c_M_map (l : Launch) (dC : Nat → ClassId) (dI : Nat → Nat → Nat) (sz : Nat) (k0 yb zb : Nat) (cI : ClassId) (y z : Nat → Int32) (th a1 a2 a3 a4 a5 a6 fo : Int32) (v : Int32) (fm : Int32) (ri : Int32) (dd : Int32)  : Met l yM_map wsM_map ({ frames := 0, cells := 0, slots := 0, locals := 0 }) (va_Pc [.ref k0, .int v, .int fm, .int ri, .int dd] (fun U => U.heap.size = sz ∧ va_P (dC, dI) vwCl [(k0, .inr (2, [.int th, .ref yb, .ref zb, .int a1, .int a2, .int a3, .int a4, .int a5, .int a6, .int fo])), (yb, .inl (cI, 65536, .inl y)), (zb, .inl (cI, 33, .inl z))] U.heap ∧ va_K (dC, dI) vwCl [(cI, .int)] U ∧ va_D (fun _ => True) [(k0, .inr (2, [.int th, .ref yb, .ref zb, .int a1, .int a2, .int a3, .int a4, .int a5, .int a6, .int fo])), (yb, .inl (cI, 65536, .inl y)), (zb, .inl (cI, 33, .inl z))])) (va_Qi (fun (a_ : Int32) (u : Int32 × (Nat → Int32)) => (a_, u) = s_M_map z v fm ri dd) (fun (u : Int32 × (Nat → Int32)) (t : State) => va_P (dC, dI) vwCl [(k0, .inr (2, [.int u.1, .ref yb, .ref zb, .int a1, .int a2, .int a3, .int a4, .int a5, .int a6, .int fo])), (yb, .inl (cI, 65536, .inl y)), (zb, .inl (cI, 33, .inl u.2))] t.heap ∧ va_K (dC, dI) vwCl [(cI, .int)] t ∧ va_D (va_A [(k0, .inr (2, [.int th, .ref yb, .ref zb, .int a1, .int a2, .int a3, .int a4, .int a5, .int a6, .int fo])), (yb, .inl (cI, 65536, .inl y)), (zb, .inl (cI, 33, .inl z))] sz) [(k0, .inr (2, [.int u.1, .ref yb, .ref zb, .int a1, .int a2, .int a3, .int a4, .int a5, .int a6, .int fo])), (yb, .inl (cI, 65536, .inl y)), (zb, .inl (cI, 33, .inl u.2))]) (va_A [(k0, .inr (2, [.int th, .ref yb, .ref zb, .int a1, .int a2, .int a3, .int a4, .int a5, .int a6, .int fo])), (yb, .inl (cI, 65536, .inl y)), (zb, .inl (cI, 33, .inl z))] sz)) 0 0 (va_A [(k0, .inr (2, [.int th, .ref yb, .ref zb, .int a1, .int a2, .int a3, .int a4, .int a5, .int a6, .int fo])), (yb, .inl (cI, 65536, .inl y)), (zb, .inl (cI, 33, .inl z))] sz) := by
  refine Met.ofW (cc := cM_map) (maxL := 7) (ret := (some .int)) (by decide) rfl ?_
  intro p e s m args below meth c s₁ B hml hv
  obtain ⟨rfl, hsz, hP, hK, hD0⟩ := hv
  have hx := B.exec
  have hb := B.bytes
  have hr := B.returns
  have hts := atoms_spec (ws := wsM_map) B.pre
  have hown : s.vm.findClass RX2 = some m.cls := findClass_of_methodNamed B.named
  have hlocks := B.notSynchronized
  subst hsz
  have hD := hD0.self (sz := s.heap.size)
  generalize hAe : va_A [(k0, .inr (2, [.int th, .ref yb, .ref zb, .int a1, .int a2, .int a3, .int a4, .int a5, .int a6, .int fo])), (yb, .inl (cI, 65536, .inl y)), (zb, .inl (cI, 33, .inl z))] s.heap.size = A at hD ⊢
  have hA : ∀ q : Nat, s.heap.size ≤ q → A q := fun q h => by rw [← hAe]; exact Or.inr h
  have hS : va_S A s.heap s.heap [] := va_S.rf
  have hP : va_P (dC, dI) vwCl [(k0, .inr (2, [.int th, .ref yb, .ref zb, .int a1, .int a2, .int a3, .int a4, .int a5, .int a6, .int fo])), (yb, .inl (cI, 65536, .inl y)), (zb, .inl (cI, 33, .inl z))] s.heap := hP
  have hl := lv_entry ([.ref k0, .int v, .int fm, .int ri, .int dd]) (n := 7) (Nat.le_of_ble_eq_true rfl)
  rw [lg_entry_eq]
  generalize (lg_sl ([.ref k0, .int v, .int fm, .int ri, .int dd]) ++ List.replicate (7 - (lg_sl ([.ref k0, .int v, .int fm, .int ri, .int dd])).length) Slot.unset).toArray = ls at hl ⊢
  have hl : lv_has ls 7 [(0, .ref k0), (1, .int v), (2, .int fm), (3, .int ri), (4, .int dd)] := hl
  refine lv_aload_n hx hb dM_map_0 rfl (lv_at hl 0 rfl) ?_
  refine lv_iconst (v := 0) hx hb dM_map_1 (by decide) ?_
  refine va_put (D := (dC, dI)) (ci := 2) (v := .int 0) (ty := tyX2 0) (C := RX2) (T := TX2) (N := 10) hx hb hts miM_map_X2 tyX2 tyX2_ok nmX2 hown hK hP hD hS 0 rfl rfl 0 (by decide) (hts _ mbM_map_1) (fun _ h9 => h9) rfl (by decide +kernel) rfl rfl (Nat.le_of_ble_eq_true rfl) dM_map_2 (fun H locs hP hD hS => ?_)
  have hP : va_P (dC, dI) vwCl [(k0, .inr (2, [.int 0, .ref yb, .ref zb, .int a1, .int a2, .int a3, .int a4, .int a5, .int a6, .int fo])), (yb, .inl (cI, 65536, .inl y)), (zb, .inl (cI, 33, .inl z))] H := hP
  have hD : va_D A [(k0, .inr (2, [.int 0, .ref yb, .ref zb, .int a1, .int a2, .int a3, .int a4, .int a5, .int a6, .int fo])), (yb, .inl (cI, 65536, .inl y)), (zb, .inl (cI, 33, .inl z))] := hD
  refine lv_iload_n hx hb dM_map_5 rfl (lv_at hl 2 rfl) ?_
  refine lv_if_lt (tgt := 25) hx hb dM_map_6 (by decide) (fun c_1 => ?_) (fun c_1 => ?_)
  · skip
    refine lv_iconst (v := (-1)) hx hb dM_map_25 (by decide) ?_
    exact W.iret (v := (-1)) hx hb hr (fun t ht hW => ⟨⟨(-1), (0, z), rfl, by simp only [s_M_map, if_pos c_1], by rw [ht]; exact hP, va_K.moved hW.alike hK, hD⟩, hS.F ht⟩) hS.2.2 dM_map_26
  · skip
    refine lv_iload_n hx hb dM_map_9 rfl (lv_at hl 2 rfl) ?_
    refine lv_bipush (v := 63) hx hb dM_map_10 (by decide) ?_
    refine lv_icmp_gt (tgt := 25) hx hb dM_map_12 (by decide) (fun c_2 => ?_) (fun c_2 => ?_)
    · skip
      refine lv_iconst (v := (-1)) hx hb dM_map_25 (by decide) ?_
      exact W.iret (v := (-1)) hx hb hr (fun t ht hW => ⟨⟨(-1), (0, z), rfl, by simp only [s_M_map, if_neg c_1, if_pos c_2], by rw [ht]; exact hP, va_K.moved hW.alike hK, hD⟩, hS.F ht⟩) hS.2.2 dM_map_26
    · skip
      refine lv_iload_n hx hb dM_map_15 rfl (lv_at hl 3 rfl) ?_
      refine lv_if_lt (tgt := 25) hx hb dM_map_16 (by decide) (fun c_3 => ?_) (fun c_3 => ?_)
      · skip
        refine lv_iconst (v := (-1)) hx hb dM_map_25 (by decide) ?_
        exact W.iret (v := (-1)) hx hb hr (fun t ht hW => ⟨⟨(-1), (0, z), rfl, by simp only [s_M_map, if_neg c_1, if_neg c_2, if_pos c_3], by rw [ht]; exact hP, va_K.moved hW.alike hK, hD⟩, hS.F ht⟩) hS.2.2 dM_map_26
      · skip
        refine lv_iload_n hx hb dM_map_19 rfl (lv_at hl 3 rfl) ?_
        refine lv_bipush (v := 15) hx hb dM_map_20 (by decide) ?_
        refine lv_icmp_le (tgt := 27) hx hb dM_map_22 (by decide) (fun c_4 => ?_) (fun c_4 => ?_)
        · skip
          refine lv_iload_n hx hb dM_map_27 rfl (lv_at hl 1 rfl) ?_
          refine lv_bipush (v := 10) hx hb dM_map_28 (by decide) ?_
          refine lv_iushr (v := ush v 10) hx hb dM_map_30 rfl ?_
          refine lv_bipush (v := 8) hx hb dM_map_31 (by decide) ?_
          refine lv_irem hx hb dM_map_33 (by decide) ?_
          refine lv_istore (lv' := [(5, .int ((ush v 10) - (ush v 10) / 8 * 8)), (0, .ref k0), (1, .int v), (2, .int fm), (3, .int ri), (4, .int dd)]) hx hb dM_map_34 hl (by decide) rfl (fun ls hl => ?_)
          refine lv_iload hx hb dM_map_36 (lv_at hl 5 rfl) ?_
          refine lv_if_eq (tgt := 46) hx hb dM_map_38 (by decide) (fun c_5 => ?_) (fun c_5 => ?_)
          · skip
            refine lv_iconst (v := 0) hx hb dM_map_46 (by decide) ?_
            refine lv_istore (lv' := [(6, .int 0), (5, .int ((ush v 10) - (ush v 10) / 8 * 8)), (0, .ref k0), (1, .int v), (2, .int fm), (3, .int ri), (4, .int dd)]) hx hb dM_map_47 hl (by decide) rfl (fun ls hl => ?_)
            refine lv_aload_n hx hb dM_map_49 rfl (lv_at hl 2 rfl) ?_
            refine va_get (D := (dC, dI)) (ci := 2) (v := .ref zb) (C := RX2) (T := TX2) (N := 10) hx hb hts miM_map_X2 hown hK hP 0 rfl rfl 2 (by decide) (hts _ mbM_map_2) (fun _ h9 => h9) rfl dM_map_50 ?_
            refine lv_iload hx hb dM_map_53 (lv_at hl 0 rfl) ?_
            refine lv_iload hx hb dM_map_55 (lv_at hl 1 rfl) ?_
            refine lv_iadd hx hb dM_map_57 ?_
            refine lv_iload_n hx hb dM_map_58 rfl (lv_at hl 3 rfl) ?_
            refine lv_bipush (v := 10) hx hb dM_map_59 (by decide) ?_
            refine lv_ishr hx hb dM_map_61 ?_
            refine lv_bipush (v := 10) hx hb dM_map_62 (by decide) ?_
            refine lv_ishl hx hb dM_map_64 ?_
            refine lv_iconst (v := 1) hx hb dM_map_65 (by decide) ?_
            refine lv_ior hx hb dM_map_66 ?_
            refine va_iast hx hb hK hP hD hS 2 0 rfl rfl (in_ms 0 (by decide) _ rfl v) dM_map_67 (fun H locs hP hD hS => ?_)
            have hP : va_P (dC, dI) vwCl [(k0, .inr (2, [.int 0, .ref yb, .ref zb, .int a1, .int a2, .int a3, .int a4, .int a5, .int a6, .int fo])), (yb, .inl (cI, 65536, .inl y)), (zb, .inl (cI, 33, .inl (upd z (0 + ((ush v 10) - (ush v 10) / 8 * 8)).toNatClampNeg (((v >>> ((10 : Int32) &&& 31)) <<< ((10 : Int32) &&& 31)) ||| 1))))] H := hP
            have hD : va_D A [(k0, .inr (2, [.int 0, .ref yb, .ref zb, .int a1, .int a2, .int a3, .int a4, .int a5, .int a6, .int fo])), (yb, .inl (cI, 65536, .inl y)), (zb, .inl (cI, 33, .inl (upd z (0 + ((ush v 10) - (ush v 10) / 8 * 8)).toNatClampNeg (((v >>> ((10 : Int32) &&& 31)) <<< ((10 : Int32) &&& 31)) ||| 1))))] := hD
            refine lv_aload_n hx hb dM_map_68 rfl (lv_at hl 2 rfl) ?_
            refine va_get (D := (dC, dI)) (ci := 2) (v := .ref zb) (C := RX2) (T := TX2) (N := 10) hx hb hts miM_map_X2 hown hK hP 0 rfl rfl 2 (by decide) (hts _ mbM_map_2) (fun _ h9 => h9) rfl dM_map_69 ?_
            refine lv_iload hx hb dM_map_72 (lv_at hl 0 rfl) ?_
            refine lv_bipush (v := 8) hx hb dM_map_74 (by decide) ?_
            refine lv_iadd hx hb dM_map_76 ?_
            refine lv_iload hx hb dM_map_77 (lv_at hl 1 rfl) ?_
            refine lv_iadd hx hb dM_map_79 ?_
            refine lv_sipush (v := 1024) hx hb dM_map_80 (by decide) ?_
            refine lv_iload_n hx hb dM_map_83 rfl (lv_at hl 4 rfl) ?_
            refine lv_imul hx hb dM_map_84 ?_
            refine lv_iload_n hx hb dM_map_85 rfl (lv_at hl 5 rfl) ?_
            refine lv_iadd hx hb dM_map_86 ?_
            refine va_iast hx hb hK hP hD hS 2 0 rfl rfl (in_ms 8 (by decide) _ rfl v) dM_map_87 (fun H locs hP hD hS => ?_)
            have hP : va_P (dC, dI) vwCl [(k0, .inr (2, [.int 0, .ref yb, .ref zb, .int a1, .int a2, .int a3, .int a4, .int a5, .int a6, .int fo])), (yb, .inl (cI, 65536, .inl y)), (zb, .inl (cI, 33, .inl (upd (upd z (0 + ((ush v 10) - (ush v 10) / 8 * 8)).toNatClampNeg (((v >>> ((10 : Int32) &&& 31)) <<< ((10 : Int32) &&& 31)) ||| 1)) ((0 + 8) + ((ush v 10) - (ush v 10) / 8 * 8)).toNatClampNeg ((1024 * fm) + ri))))] H := hP
            have hD : va_D A [(k0, .inr (2, [.int 0, .ref yb, .ref zb, .int a1, .int a2, .int a3, .int a4, .int a5, .int a6, .int fo])), (yb, .inl (cI, 65536, .inl y)), (zb, .inl (cI, 33, .inl (upd (upd z (0 + ((ush v 10) - (ush v 10) / 8 * 8)).toNatClampNeg (((v >>> ((10 : Int32) &&& 31)) <<< ((10 : Int32) &&& 31)) ||| 1)) ((0 + 8) + ((ush v 10) - (ush v 10) / 8 * 8)).toNatClampNeg ((1024 * fm) + ri))))] := hD
            refine lv_iload hx hb dM_map_88 (lv_at hl 1 rfl) ?_
            exact W.iret (v := (ush v 10) - (ush v 10) / 8 * 8) hx hb hr (fun t ht hW => ⟨⟨(ush v 10) - (ush v 10) / 8 * 8, (0, upd (upd z (0 + ((ush v 10) - (ush v 10) / 8 * 8)).toNatClampNeg (((v >>> ((10 : Int32) &&& 31)) <<< ((10 : Int32) &&& 31)) ||| 1)) ((0 + 8) + ((ush v 10) - (ush v 10) / 8 * 8)).toNatClampNeg ((1024 * fm) + ri)), rfl, by simp only [s_M_map, if_neg c_1, if_neg c_2, if_neg c_3, if_pos c_4, if_pos c_5], by rw [ht]; exact hP, va_K.moved hW.alike hK, hD⟩, hS.F ht⟩) hS.2.2 dM_map_90
          · skip
            refine lv_bipush (v := 16) hx hb dM_map_41 (by decide) ?_
            refine lv_goto (tgt := 47) hx hb dM_map_43 (by decide) ?_
            refine lv_istore (lv' := [(6, .int 16), (5, .int ((ush v 10) - (ush v 10) / 8 * 8)), (0, .ref k0), (1, .int v), (2, .int fm), (3, .int ri), (4, .int dd)]) hx hb dM_map_47 hl (by decide) rfl (fun ls hl => ?_)
            refine lv_aload_n hx hb dM_map_49 rfl (lv_at hl 2 rfl) ?_
            refine va_get (D := (dC, dI)) (ci := 2) (v := .ref zb) (C := RX2) (T := TX2) (N := 10) hx hb hts miM_map_X2 hown hK hP 0 rfl rfl 2 (by decide) (hts _ mbM_map_2) (fun _ h9 => h9) rfl dM_map_50 ?_
            refine lv_iload hx hb dM_map_53 (lv_at hl 0 rfl) ?_
            refine lv_iload hx hb dM_map_55 (lv_at hl 1 rfl) ?_
            refine lv_iadd hx hb dM_map_57 ?_
            refine lv_iload_n hx hb dM_map_58 rfl (lv_at hl 3 rfl) ?_
            refine lv_bipush (v := 10) hx hb dM_map_59 (by decide) ?_
            refine lv_ishr hx hb dM_map_61 ?_
            refine lv_bipush (v := 10) hx hb dM_map_62 (by decide) ?_
            refine lv_ishl hx hb dM_map_64 ?_
            refine lv_iconst (v := 1) hx hb dM_map_65 (by decide) ?_
            refine lv_ior hx hb dM_map_66 ?_
            refine va_iast hx hb hK hP hD hS 2 0 rfl rfl (in_ms 16 (by decide) _ rfl v) dM_map_67 (fun H locs hP hD hS => ?_)
            have hP : va_P (dC, dI) vwCl [(k0, .inr (2, [.int 0, .ref yb, .ref zb, .int a1, .int a2, .int a3, .int a4, .int a5, .int a6, .int fo])), (yb, .inl (cI, 65536, .inl y)), (zb, .inl (cI, 33, .inl (upd z (16 + ((ush v 10) - (ush v 10) / 8 * 8)).toNatClampNeg (((v >>> ((10 : Int32) &&& 31)) <<< ((10 : Int32) &&& 31)) ||| 1))))] H := hP
            have hD : va_D A [(k0, .inr (2, [.int 0, .ref yb, .ref zb, .int a1, .int a2, .int a3, .int a4, .int a5, .int a6, .int fo])), (yb, .inl (cI, 65536, .inl y)), (zb, .inl (cI, 33, .inl (upd z (16 + ((ush v 10) - (ush v 10) / 8 * 8)).toNatClampNeg (((v >>> ((10 : Int32) &&& 31)) <<< ((10 : Int32) &&& 31)) ||| 1))))] := hD
            refine lv_aload_n hx hb dM_map_68 rfl (lv_at hl 2 rfl) ?_
            refine va_get (D := (dC, dI)) (ci := 2) (v := .ref zb) (C := RX2) (T := TX2) (N := 10) hx hb hts miM_map_X2 hown hK hP 0 rfl rfl 2 (by decide) (hts _ mbM_map_2) (fun _ h9 => h9) rfl dM_map_69 ?_
            refine lv_iload hx hb dM_map_72 (lv_at hl 0 rfl) ?_
            refine lv_bipush (v := 8) hx hb dM_map_74 (by decide) ?_
            refine lv_iadd hx hb dM_map_76 ?_
            refine lv_iload hx hb dM_map_77 (lv_at hl 1 rfl) ?_
            refine lv_iadd hx hb dM_map_79 ?_
            refine lv_sipush (v := 1024) hx hb dM_map_80 (by decide) ?_
            refine lv_iload_n hx hb dM_map_83 rfl (lv_at hl 4 rfl) ?_
            refine lv_imul hx hb dM_map_84 ?_
            refine lv_iload_n hx hb dM_map_85 rfl (lv_at hl 5 rfl) ?_
            refine lv_iadd hx hb dM_map_86 ?_
            refine va_iast hx hb hK hP hD hS 2 0 rfl rfl (in_ms 24 (by decide) _ rfl v) dM_map_87 (fun H locs hP hD hS => ?_)
            have hP : va_P (dC, dI) vwCl [(k0, .inr (2, [.int 0, .ref yb, .ref zb, .int a1, .int a2, .int a3, .int a4, .int a5, .int a6, .int fo])), (yb, .inl (cI, 65536, .inl y)), (zb, .inl (cI, 33, .inl (upd (upd z (16 + ((ush v 10) - (ush v 10) / 8 * 8)).toNatClampNeg (((v >>> ((10 : Int32) &&& 31)) <<< ((10 : Int32) &&& 31)) ||| 1)) ((16 + 8) + ((ush v 10) - (ush v 10) / 8 * 8)).toNatClampNeg ((1024 * fm) + ri))))] H := hP
            have hD : va_D A [(k0, .inr (2, [.int 0, .ref yb, .ref zb, .int a1, .int a2, .int a3, .int a4, .int a5, .int a6, .int fo])), (yb, .inl (cI, 65536, .inl y)), (zb, .inl (cI, 33, .inl (upd (upd z (16 + ((ush v 10) - (ush v 10) / 8 * 8)).toNatClampNeg (((v >>> ((10 : Int32) &&& 31)) <<< ((10 : Int32) &&& 31)) ||| 1)) ((16 + 8) + ((ush v 10) - (ush v 10) / 8 * 8)).toNatClampNeg ((1024 * fm) + ri))))] := hD
            refine lv_iload hx hb dM_map_88 (lv_at hl 1 rfl) ?_
            exact W.iret (v := (ush v 10) - (ush v 10) / 8 * 8) hx hb hr (fun t ht hW => ⟨⟨(ush v 10) - (ush v 10) / 8 * 8, (0, upd (upd z (16 + ((ush v 10) - (ush v 10) / 8 * 8)).toNatClampNeg (((v >>> ((10 : Int32) &&& 31)) <<< ((10 : Int32) &&& 31)) ||| 1)) ((16 + 8) + ((ush v 10) - (ush v 10) / 8 * 8)).toNatClampNeg ((1024 * fm) + ri)), rfl, by simp only [s_M_map, if_neg c_1, if_neg c_2, if_neg c_3, if_pos c_4, if_neg c_5], by rw [ht]; exact hP, va_K.moved hW.alike hK, hD⟩, hS.F ht⟩) hS.2.2 dM_map_90
        · skip
          refine lv_iconst (v := (-1)) hx hb dM_map_25 (by decide) ?_
          exact W.iret (v := (-1)) hx hb hr (fun t ht hW => ⟨⟨(-1), (0, z), rfl, by simp only [s_M_map, if_neg c_1, if_neg c_2, if_neg c_3, if_neg c_4], by rw [ht]; exact hP, va_K.moved hW.alike hK, hD⟩, hS.F ht⟩) hS.2.2 dM_map_26
set_option maxRecDepth 100000 in
theorem miM_special_X2 : ∀ w ∈ u_ws RX2 TX2 10, w ∈ wsM_special := by decide +kernel
set_option maxRecDepth 100000 in
theorem mbM_special_1 : (.fieldLink RX2 17 "SoftMapsModel" "thrown" "I" : Cond) ∈ wsM_special := by decide +kernel
set_option maxRecDepth 100000 in
theorem mbM_special_2 : (.fieldLink RX2 14 "SoftMapsModel" "specials" "[I" : Cond) ∈ wsM_special := by decide +kernel
def s_M_special (z : Nat → Int32) (k : Int32) : Int32 × Int32 :=
  if k < 0 then
    (0, 0)
  else
    if k ≤ 32 then
      (z k.toNatClampNeg, 0)
    else
      (0, 0)
set_option maxHeartbeats 4000000 in
set_option maxRecDepth 100000 in
theorem c_M_special (l : Launch) (dC : Nat → ClassId) (dI : Nat → Nat → Nat) (sz : Nat) (k0 yb zb : Nat) (cI : ClassId) (y z : Nat → Int32) (th a1 a2 a3 a4 a5 a6 fo : Int32) (k : Int32)  : Met l yM_special wsM_special ({ frames := 0, cells := 0, slots := 0, locals := 0 }) (va_Pc [.ref k0, .int k] (fun U => U.heap.size = sz ∧ va_P (dC, dI) vwCl [(k0, .inr (2, [.int th, .ref yb, .ref zb, .int a1, .int a2, .int a3, .int a4, .int a5, .int a6, .int fo])), (yb, .inl (cI, 65536, .inl y)), (zb, .inl (cI, 33, .inl z))] U.heap ∧ va_K (dC, dI) vwCl [(cI, .int)] U ∧ va_D (fun _ => True) [(k0, .inr (2, [.int th, .ref yb, .ref zb, .int a1, .int a2, .int a3, .int a4, .int a5, .int a6, .int fo])), (yb, .inl (cI, 65536, .inl y)), (zb, .inl (cI, 33, .inl z))])) (va_Qi (fun (a_ : Int32) (u : Int32) => (a_, u) = s_M_special z k) (fun (u : Int32) (t : State) => va_P (dC, dI) vwCl [(k0, .inr (2, [.int u, .ref yb, .ref zb, .int a1, .int a2, .int a3, .int a4, .int a5, .int a6, .int fo])), (yb, .inl (cI, 65536, .inl y)), (zb, .inl (cI, 33, .inl z))] t.heap ∧ va_K (dC, dI) vwCl [(cI, .int)] t ∧ va_D (va_A [(k0, .inr (2, [.int th, .ref yb, .ref zb, .int a1, .int a2, .int a3, .int a4, .int a5, .int a6, .int fo])), (yb, .inl (cI, 65536, .inl y)), (zb, .inl (cI, 33, .inl z))] sz) [(k0, .inr (2, [.int u, .ref yb, .ref zb, .int a1, .int a2, .int a3, .int a4, .int a5, .int a6, .int fo])), (yb, .inl (cI, 65536, .inl y)), (zb, .inl (cI, 33, .inl z))]) (va_A [(k0, .inr (2, [.int th, .ref yb, .ref zb, .int a1, .int a2, .int a3, .int a4, .int a5, .int a6, .int fo])), (yb, .inl (cI, 65536, .inl y)), (zb, .inl (cI, 33, .inl z))] sz)) 0 0 (va_A [(k0, .inr (2, [.int th, .ref yb, .ref zb, .int a1, .int a2, .int a3, .int a4, .int a5, .int a6, .int fo])), (yb, .inl (cI, 65536, .inl y)), (zb, .inl (cI, 33, .inl z))] sz) := by
  refine Met.ofW (cc := cM_special) (maxL := 2) (ret := (some .int)) (by decide) rfl ?_
  intro p e s m args below meth c s₁ B hml hv
  obtain ⟨rfl, hsz, hP, hK, hD0⟩ := hv
  have hx := B.exec
  have hb := B.bytes
  have hr := B.returns
  have hts := atoms_spec (ws := wsM_special) B.pre
  have hown : s.vm.findClass RX2 = some m.cls := findClass_of_methodNamed B.named
  have hlocks := B.notSynchronized
  subst hsz
  have hD := hD0.self (sz := s.heap.size)
  generalize hAe : va_A [(k0, .inr (2, [.int th, .ref yb, .ref zb, .int a1, .int a2, .int a3, .int a4, .int a5, .int a6, .int fo])), (yb, .inl (cI, 65536, .inl y)), (zb, .inl (cI, 33, .inl z))] s.heap.size = A at hD ⊢
  have hA : ∀ q : Nat, s.heap.size ≤ q → A q := fun q h => by rw [← hAe]; exact Or.inr h
  have hS : va_S A s.heap s.heap [] := va_S.rf
  have hP : va_P (dC, dI) vwCl [(k0, .inr (2, [.int th, .ref yb, .ref zb, .int a1, .int a2, .int a3, .int a4, .int a5, .int a6, .int fo])), (yb, .inl (cI, 65536, .inl y)), (zb, .inl (cI, 33, .inl z))] s.heap := hP
  have hl := lv_entry ([.ref k0, .int k]) (n := 2) (Nat.le_of_ble_eq_true rfl)
  rw [lg_entry_eq]
  generalize (lg_sl ([.ref k0, .int k]) ++ List.replicate (2 - (lg_sl ([.ref k0, .int k])).length) Slot.unset).toArray = ls at hl ⊢
  have hl : lv_has ls 2 [(0, .ref k0), (1, .int k)] := hl
  refine lv_aload_n hx hb dM_special_0 rfl (lv_at hl 0 rfl) ?_
  refine lv_iconst (v := 0) hx hb dM_special_1 (by decide) ?_
  refine va_put (D := (dC, dI)) (ci := 2) (v := .int 0) (ty := tyX2 0) (C := RX2) (T := TX2) (N := 10) hx hb hts miM_special_X2 tyX2 tyX2_ok nmX2 hown hK hP hD hS 0 rfl rfl 0 (by decide) (hts _ mbM_special_1) (fun _ h9 => h9) rfl (by decide +kernel) rfl rfl (Nat.le_of_ble_eq_true rfl) dM_special_2 (fun H locs hP hD hS => ?_)
  have hP : va_P (dC, dI) vwCl [(k0, .inr (2, [.int 0, .ref yb, .ref zb, .int a1, .int a2, .int a3, .int a4, .int a5, .int a6, .int fo])), (yb, .inl (cI, 65536, .inl y)), (zb, .inl (cI, 33, .inl z))] H := hP
  have hD : va_D A [(k0, .inr (2, [.int 0, .ref yb, .ref zb, .int a1, .int a2, .int a3, .int a4, .int a5, .int a6, .int fo])), (yb, .inl (cI, 65536, .inl y)), (zb, .inl (cI, 33, .inl z))] := hD
  refine lv_iload_n hx hb dM_special_5 rfl (lv_at hl 1 rfl) ?_
  refine lv_if_lt (tgt := 15) hx hb dM_special_6 (by decide) (fun c_1 => ?_) (fun c_1 => ?_)
  · skip
    refine lv_iconst (v := 0) hx hb dM_special_15 (by decide) ?_
    refine lv_goto (tgt := 25) hx hb dM_special_16 (by decide) ?_
    exact W.iret (v := 0) hx hb hr (fun t ht hW => ⟨⟨0, 0, rfl, by simp only [s_M_special, if_pos c_1], by rw [ht]; exact hP, va_K.moved hW.alike hK, hD⟩, hS.F ht⟩) hS.2.2 dM_special_25
  · skip
    refine lv_iload_n hx hb dM_special_9 rfl (lv_at hl 1 rfl) ?_
    refine lv_bipush (v := 32) hx hb dM_special_10 (by decide) ?_
    refine lv_icmp_le (tgt := 19) hx hb dM_special_12 (by decide) (fun c_2 => ?_) (fun c_2 => ?_)
    · skip
      refine lv_aload_n hx hb dM_special_19 rfl (lv_at hl 0 rfl) ?_
      refine va_get (D := (dC, dI)) (ci := 2) (v := .ref zb) (C := RX2) (T := TX2) (N := 10) hx hb hts miM_special_X2 hown hK hP 0 rfl rfl 2 (by decide) (hts _ mbM_special_2) (fun _ h9 => h9) rfl dM_special_20 ?_
      refine lv_iload_n hx hb dM_special_23 rfl (lv_at hl 1 rfl) ?_
      refine va_iald hx hb hK hP 2 0 rfl rfl (in_mk c_1 (Int32.not_lt.mpr c_2)) dM_special_24 ?_
      exact W.iret (v := z k.toNatClampNeg) hx hb hr (fun t ht hW => ⟨⟨z k.toNatClampNeg, 0, rfl, by simp only [s_M_special, if_neg c_1, if_pos c_2], by rw [ht]; exact hP, va_K.moved hW.alike hK, hD⟩, hS.F ht⟩) hS.2.2 dM_special_25
    · skip
      refine lv_iconst (v := 0) hx hb dM_special_15 (by decide) ?_
      refine lv_goto (tgt := 25) hx hb dM_special_16 (by decide) ?_
      exact W.iret (v := 0) hx hb hr (fun t ht hW => ⟨⟨0, 0, rfl, by simp only [s_M_special, if_neg c_1, if_neg c_2], by rw [ht]; exact hP, va_K.moved hW.alike hK, hD⟩, hS.F ht⟩) hS.2.2 dM_special_25
set_option maxRecDepth 100000 in
theorem miM_matched_X2 : ∀ w ∈ u_ws RX2 TX2 10, w ∈ wsM_matched := by decide +kernel
set_option maxRecDepth 100000 in
theorem mbM_matched_1 : (.fieldLink RX2 14 "SoftMapsModel" "specials" "[I" : Cond) ∈ wsM_matched := by decide +kernel
def s_M_matched (z : Nat → Int32) (fr : Int32) : Int32 :=
  (((((((0 + ((z (fr + 0).toNatClampNeg) &&& 1)) + ((z (fr + 1).toNatClampNeg) &&& 1)) + ((z (fr + 2).toNatClampNeg) &&& 1)) + ((z (fr + 3).toNatClampNeg) &&& 1)) + ((z (fr + 4).toNatClampNeg) &&& 1)) + ((z (fr + 5).toNatClampNeg) &&& 1)) + ((z (fr + 6).toNatClampNeg) &&& 1)) + ((z (fr + 7).toNatClampNeg) &&& 1)
set_option maxHeartbeats 4000000 in
set_option maxRecDepth 100000 in
theorem c_M_matched (l : Launch) (dC : Nat → ClassId) (dI : Nat → Nat → Nat) (k0 yb zb : Nat) (cI : ClassId) (y z : Nat → Int32) (th a1 a2 a3 a4 a5 a6 fo : Int32) (fr : Int32) (hf : fr_ok fr) : Met l yM_matched wsM_matched ({ frames := 0, cells := 0, slots := 0, locals := 0 }) (va_Pc [.ref k0, .int fr] (fun U => va_P (dC, dI) vwCl [(k0, .inr (2, [.int th, .ref yb, .ref zb, .int a1, .int a2, .int a3, .int a4, .int a5, .int a6, .int fo])), (yb, .inl (cI, 65536, .inl y)), (zb, .inl (cI, 33, .inl z))] U.heap ∧ va_K (dC, dI) vwCl [(cI, .int)] U)) (vp_Si (fun x_ => x_ = s_M_matched z fr)) 0 0 (fun _ => False) := by
  refine Met.ofW (cc := cM_matched) (maxL := 4) (ret := (some .int)) (by decide) rfl ?_
  intro p e s m args below meth c s₁ B hml hv
  obtain ⟨rfl, hP, hK⟩ := hv
  have hx := B.exec
  have hb := B.bytes
  have hr := B.returns
  have hts := atoms_spec (ws := wsM_matched) B.pre
  have hown : s.vm.findClass RX2 = some m.cls := findClass_of_methodNamed B.named
  have hlocks := B.notSynchronized
  have hl := lv_entry ([.ref k0, .int fr]) (n := 4) (Nat.le_of_ble_eq_true rfl)
  rw [lg_entry_eq]
  generalize (lg_sl ([.ref k0, .int fr]) ++ List.replicate (4 - (lg_sl ([.ref k0, .int fr])).length) Slot.unset).toArray = ls at hl ⊢
  have hl : lv_has ls 4 [(0, .ref k0), (1, .int fr)] := hl
  have hP : va_P (dC, dI) vwCl [(k0, .inr (2, [.int th, .ref yb, .ref zb, .int a1, .int a2, .int a3, .int a4, .int a5, .int a6, .int fo])), (yb, .inl (cI, 65536, .inl y)), (zb, .inl (cI, 33, .inl z))] s.heap := hP
  refine lv_iconst (v := 0) hx hb dM_matched_0 (by decide) ?_
  refine lv_istore_n (lv' := [(2, .int 0), (0, .ref k0), (1, .int fr)]) hx hb dM_matched_1 rfl hl (by decide) rfl (fun ls hl => ?_)
  refine lv_iconst (v := 0) hx hb dM_matched_2 (by decide) ?_
  refine lv_istore_n (lv' := [(3, .int 0), (2, .int 0), (0, .ref k0), (1, .int fr)]) hx hb dM_matched_3 rfl hl (by decide) rfl (fun ls hl => ?_)
  refine lv_iload_n hx hb dM_matched_4 rfl (lv_at hl 0 rfl) ?_
  refine lv_bipush (v := 8) hx hb dM_matched_5 (by decide) ?_
  refine lv_icmp_ge (tgt := 29) hx hb dM_matched_7 (by decide) (fun c_1 => ?_) (fun c_1 => ?_)
  · exact absurd c_1 (by decide)
  · skip
    refine lv_iload_n hx hb dM_matched_10 rfl (lv_at hl 1 rfl) ?_
    refine lv_aload_n hx hb dM_matched_11 rfl (lv_at hl 2 rfl) ?_
    refine va_get (D := (dC, dI)) (ci := 2) (v := .ref zb) (C := RX2) (T := TX2) (N := 10) hx hb hts miM_matched_X2 hown hK hP 0 rfl rfl 2 (by decide) (hts _ mbM_matched_1) (fun _ h9 => h9) rfl dM_matched_12 ?_
    refine lv_iload_n hx hb dM_matched_15 rfl (lv_at hl 3 rfl) ?_
    refine lv_iload_n hx hb dM_matched_16 rfl (lv_at hl 0 rfl) ?_
    refine lv_iadd hx hb dM_matched_17 ?_
    refine va_iald hx hb hK hP 2 0 rfl rfl (in_fr hf 0 (by decide) _ rfl) dM_matched_18 ?_
    refine lv_iconst (v := 1) hx hb dM_matched_19 (by decide) ?_
    refine lv_iand hx hb dM_matched_20 ?_
    refine lv_iadd hx hb dM_matched_21 ?_
    refine lv_istore_n (lv' := [(2, .int (0 + ((z (fr + 0).toNatClampNeg) &&& 1))), (3, .int 0), (0, .ref k0), (1, .int fr)]) hx hb dM_matched_22 rfl hl (by decide) rfl (fun ls hl => ?_)
    refine lv_iinc (v := 1) (lv' := [(3, .int 1), (2, .int (0 + ((z (fr + 0).toNatClampNeg) &&& 1))), (0, .ref k0), (1, .int fr)]) hx hb dM_matched_23 hl (k := 1) rfl rfl (by decide) rfl (fun ls hl => ?_)
    refine lv_goto (tgt := 4) hx hb dM_matched_26 (by decide) ?_
    refine lv_iload_n hx hb dM_matched_4 rfl (lv_at hl 0 rfl) ?_
    refine lv_bipush (v := 8) hx hb dM_matched_5 (by decide) ?_
    refine lv_icmp_ge (tgt := 29) hx hb dM_matched_7 (by decide) (fun c_2 => ?_) (fun c_2 => ?_)
    · exact absurd c_2 (by decide)
    · skip
      refine lv_iload_n hx hb dM_matched_10 rfl (lv_at hl 1 rfl) ?_
      refine lv_aload_n hx hb dM_matched_11 rfl (lv_at hl 2 rfl) ?_
      refine va_get (D := (dC, dI)) (ci := 2) (v := .ref zb) (C := RX2) (T := TX2) (N := 10) hx hb hts miM_matched_X2 hown hK hP 0 rfl rfl 2 (by decide) (hts _ mbM_matched_1) (fun _ h9 => h9) rfl dM_matched_12 ?_
      refine lv_iload_n hx hb dM_matched_15 rfl (lv_at hl 3 rfl) ?_
      refine lv_iload_n hx hb dM_matched_16 rfl (lv_at hl 0 rfl) ?_
      refine lv_iadd hx hb dM_matched_17 ?_
      refine va_iald hx hb hK hP 2 0 rfl rfl (in_fr hf 1 (by decide) _ rfl) dM_matched_18 ?_
      refine lv_iconst (v := 1) hx hb dM_matched_19 (by decide) ?_
      refine lv_iand hx hb dM_matched_20 ?_
      refine lv_iadd hx hb dM_matched_21 ?_
      refine lv_istore_n (lv' := [(2, .int ((0 + ((z (fr + 0).toNatClampNeg) &&& 1)) + ((z (fr + 1).toNatClampNeg) &&& 1))), (3, .int 1), (0, .ref k0), (1, .int fr)]) hx hb dM_matched_22 rfl hl (by decide) rfl (fun ls hl => ?_)
      refine lv_iinc (v := 2) (lv' := [(3, .int 2), (2, .int ((0 + ((z (fr + 0).toNatClampNeg) &&& 1)) + ((z (fr + 1).toNatClampNeg) &&& 1))), (0, .ref k0), (1, .int fr)]) hx hb dM_matched_23 hl (k := 1) rfl rfl (by decide) rfl (fun ls hl => ?_)
      refine lv_goto (tgt := 4) hx hb dM_matched_26 (by decide) ?_
      refine lv_iload_n hx hb dM_matched_4 rfl (lv_at hl 0 rfl) ?_
      refine lv_bipush (v := 8) hx hb dM_matched_5 (by decide) ?_
      refine lv_icmp_ge (tgt := 29) hx hb dM_matched_7 (by decide) (fun c_3 => ?_) (fun c_3 => ?_)
      · exact absurd c_3 (by decide)
      · skip
        refine lv_iload_n hx hb dM_matched_10 rfl (lv_at hl 1 rfl) ?_
        refine lv_aload_n hx hb dM_matched_11 rfl (lv_at hl 2 rfl) ?_
        refine va_get (D := (dC, dI)) (ci := 2) (v := .ref zb) (C := RX2) (T := TX2) (N := 10) hx hb hts miM_matched_X2 hown hK hP 0 rfl rfl 2 (by decide) (hts _ mbM_matched_1) (fun _ h9 => h9) rfl dM_matched_12 ?_
        refine lv_iload_n hx hb dM_matched_15 rfl (lv_at hl 3 rfl) ?_
        refine lv_iload_n hx hb dM_matched_16 rfl (lv_at hl 0 rfl) ?_
        refine lv_iadd hx hb dM_matched_17 ?_
        refine va_iald hx hb hK hP 2 0 rfl rfl (in_fr hf 2 (by decide) _ rfl) dM_matched_18 ?_
        refine lv_iconst (v := 1) hx hb dM_matched_19 (by decide) ?_
        refine lv_iand hx hb dM_matched_20 ?_
        refine lv_iadd hx hb dM_matched_21 ?_
        refine lv_istore_n (lv' := [(2, .int (((0 + ((z (fr + 0).toNatClampNeg) &&& 1)) + ((z (fr + 1).toNatClampNeg) &&& 1)) + ((z (fr + 2).toNatClampNeg) &&& 1))), (3, .int 2), (0, .ref k0), (1, .int fr)]) hx hb dM_matched_22 rfl hl (by decide) rfl (fun ls hl => ?_)
        refine lv_iinc (v := 3) (lv' := [(3, .int 3), (2, .int (((0 + ((z (fr + 0).toNatClampNeg) &&& 1)) + ((z (fr + 1).toNatClampNeg) &&& 1)) + ((z (fr + 2).toNatClampNeg) &&& 1))), (0, .ref k0), (1, .int fr)]) hx hb dM_matched_23 hl (k := 1) rfl rfl (by decide) rfl (fun ls hl => ?_)
        refine lv_goto (tgt := 4) hx hb dM_matched_26 (by decide) ?_
        refine lv_iload_n hx hb dM_matched_4 rfl (lv_at hl 0 rfl) ?_
        refine lv_bipush (v := 8) hx hb dM_matched_5 (by decide) ?_
        refine lv_icmp_ge (tgt := 29) hx hb dM_matched_7 (by decide) (fun c_4 => ?_) (fun c_4 => ?_)
        · exact absurd c_4 (by decide)
        · skip
          refine lv_iload_n hx hb dM_matched_10 rfl (lv_at hl 1 rfl) ?_
          refine lv_aload_n hx hb dM_matched_11 rfl (lv_at hl 2 rfl) ?_
          refine va_get (D := (dC, dI)) (ci := 2) (v := .ref zb) (C := RX2) (T := TX2) (N := 10) hx hb hts miM_matched_X2 hown hK hP 0 rfl rfl 2 (by decide) (hts _ mbM_matched_1) (fun _ h9 => h9) rfl dM_matched_12 ?_
          refine lv_iload_n hx hb dM_matched_15 rfl (lv_at hl 3 rfl) ?_
          refine lv_iload_n hx hb dM_matched_16 rfl (lv_at hl 0 rfl) ?_
          refine lv_iadd hx hb dM_matched_17 ?_
          refine va_iald hx hb hK hP 2 0 rfl rfl (in_fr hf 3 (by decide) _ rfl) dM_matched_18 ?_
          refine lv_iconst (v := 1) hx hb dM_matched_19 (by decide) ?_
          refine lv_iand hx hb dM_matched_20 ?_
          refine lv_iadd hx hb dM_matched_21 ?_
          refine lv_istore_n (lv' := [(2, .int ((((0 + ((z (fr + 0).toNatClampNeg) &&& 1)) + ((z (fr + 1).toNatClampNeg) &&& 1)) + ((z (fr + 2).toNatClampNeg) &&& 1)) + ((z (fr + 3).toNatClampNeg) &&& 1))), (3, .int 3), (0, .ref k0), (1, .int fr)]) hx hb dM_matched_22 rfl hl (by decide) rfl (fun ls hl => ?_)
          refine lv_iinc (v := 4) (lv' := [(3, .int 4), (2, .int ((((0 + ((z (fr + 0).toNatClampNeg) &&& 1)) + ((z (fr + 1).toNatClampNeg) &&& 1)) + ((z (fr + 2).toNatClampNeg) &&& 1)) + ((z (fr + 3).toNatClampNeg) &&& 1))), (0, .ref k0), (1, .int fr)]) hx hb dM_matched_23 hl (k := 1) rfl rfl (by decide) rfl (fun ls hl => ?_)
          refine lv_goto (tgt := 4) hx hb dM_matched_26 (by decide) ?_
          refine lv_iload_n hx hb dM_matched_4 rfl (lv_at hl 0 rfl) ?_
          refine lv_bipush (v := 8) hx hb dM_matched_5 (by decide) ?_
          refine lv_icmp_ge (tgt := 29) hx hb dM_matched_7 (by decide) (fun c_5 => ?_) (fun c_5 => ?_)
          · exact absurd c_5 (by decide)
          · skip
            refine lv_iload_n hx hb dM_matched_10 rfl (lv_at hl 1 rfl) ?_
            refine lv_aload_n hx hb dM_matched_11 rfl (lv_at hl 2 rfl) ?_
            refine va_get (D := (dC, dI)) (ci := 2) (v := .ref zb) (C := RX2) (T := TX2) (N := 10) hx hb hts miM_matched_X2 hown hK hP 0 rfl rfl 2 (by decide) (hts _ mbM_matched_1) (fun _ h9 => h9) rfl dM_matched_12 ?_
            refine lv_iload_n hx hb dM_matched_15 rfl (lv_at hl 3 rfl) ?_
            refine lv_iload_n hx hb dM_matched_16 rfl (lv_at hl 0 rfl) ?_
            refine lv_iadd hx hb dM_matched_17 ?_
            refine va_iald hx hb hK hP 2 0 rfl rfl (in_fr hf 4 (by decide) _ rfl) dM_matched_18 ?_
            refine lv_iconst (v := 1) hx hb dM_matched_19 (by decide) ?_
            refine lv_iand hx hb dM_matched_20 ?_
            refine lv_iadd hx hb dM_matched_21 ?_
            refine lv_istore_n (lv' := [(2, .int (((((0 + ((z (fr + 0).toNatClampNeg) &&& 1)) + ((z (fr + 1).toNatClampNeg) &&& 1)) + ((z (fr + 2).toNatClampNeg) &&& 1)) + ((z (fr + 3).toNatClampNeg) &&& 1)) + ((z (fr + 4).toNatClampNeg) &&& 1))), (3, .int 4), (0, .ref k0), (1, .int fr)]) hx hb dM_matched_22 rfl hl (by decide) rfl (fun ls hl => ?_)
            refine lv_iinc (v := 5) (lv' := [(3, .int 5), (2, .int (((((0 + ((z (fr + 0).toNatClampNeg) &&& 1)) + ((z (fr + 1).toNatClampNeg) &&& 1)) + ((z (fr + 2).toNatClampNeg) &&& 1)) + ((z (fr + 3).toNatClampNeg) &&& 1)) + ((z (fr + 4).toNatClampNeg) &&& 1))), (0, .ref k0), (1, .int fr)]) hx hb dM_matched_23 hl (k := 1) rfl rfl (by decide) rfl (fun ls hl => ?_)
            refine lv_goto (tgt := 4) hx hb dM_matched_26 (by decide) ?_
            refine lv_iload_n hx hb dM_matched_4 rfl (lv_at hl 0 rfl) ?_
            refine lv_bipush (v := 8) hx hb dM_matched_5 (by decide) ?_
            refine lv_icmp_ge (tgt := 29) hx hb dM_matched_7 (by decide) (fun c_6 => ?_) (fun c_6 => ?_)
            · exact absurd c_6 (by decide)
            · skip
              refine lv_iload_n hx hb dM_matched_10 rfl (lv_at hl 1 rfl) ?_
              refine lv_aload_n hx hb dM_matched_11 rfl (lv_at hl 2 rfl) ?_
              refine va_get (D := (dC, dI)) (ci := 2) (v := .ref zb) (C := RX2) (T := TX2) (N := 10) hx hb hts miM_matched_X2 hown hK hP 0 rfl rfl 2 (by decide) (hts _ mbM_matched_1) (fun _ h9 => h9) rfl dM_matched_12 ?_
              refine lv_iload_n hx hb dM_matched_15 rfl (lv_at hl 3 rfl) ?_
              refine lv_iload_n hx hb dM_matched_16 rfl (lv_at hl 0 rfl) ?_
              refine lv_iadd hx hb dM_matched_17 ?_
              refine va_iald hx hb hK hP 2 0 rfl rfl (in_fr hf 5 (by decide) _ rfl) dM_matched_18 ?_
              refine lv_iconst (v := 1) hx hb dM_matched_19 (by decide) ?_
              refine lv_iand hx hb dM_matched_20 ?_
              refine lv_iadd hx hb dM_matched_21 ?_
              refine lv_istore_n (lv' := [(2, .int ((((((0 + ((z (fr + 0).toNatClampNeg) &&& 1)) + ((z (fr + 1).toNatClampNeg) &&& 1)) + ((z (fr + 2).toNatClampNeg) &&& 1)) + ((z (fr + 3).toNatClampNeg) &&& 1)) + ((z (fr + 4).toNatClampNeg) &&& 1)) + ((z (fr + 5).toNatClampNeg) &&& 1))), (3, .int 5), (0, .ref k0), (1, .int fr)]) hx hb dM_matched_22 rfl hl (by decide) rfl (fun ls hl => ?_)
              refine lv_iinc (v := 6) (lv' := [(3, .int 6), (2, .int ((((((0 + ((z (fr + 0).toNatClampNeg) &&& 1)) + ((z (fr + 1).toNatClampNeg) &&& 1)) + ((z (fr + 2).toNatClampNeg) &&& 1)) + ((z (fr + 3).toNatClampNeg) &&& 1)) + ((z (fr + 4).toNatClampNeg) &&& 1)) + ((z (fr + 5).toNatClampNeg) &&& 1))), (0, .ref k0), (1, .int fr)]) hx hb dM_matched_23 hl (k := 1) rfl rfl (by decide) rfl (fun ls hl => ?_)
              refine lv_goto (tgt := 4) hx hb dM_matched_26 (by decide) ?_
              refine lv_iload_n hx hb dM_matched_4 rfl (lv_at hl 0 rfl) ?_
              refine lv_bipush (v := 8) hx hb dM_matched_5 (by decide) ?_
              refine lv_icmp_ge (tgt := 29) hx hb dM_matched_7 (by decide) (fun c_7 => ?_) (fun c_7 => ?_)
              · exact absurd c_7 (by decide)
              · skip
                refine lv_iload_n hx hb dM_matched_10 rfl (lv_at hl 1 rfl) ?_
                refine lv_aload_n hx hb dM_matched_11 rfl (lv_at hl 2 rfl) ?_
                refine va_get (D := (dC, dI)) (ci := 2) (v := .ref zb) (C := RX2) (T := TX2) (N := 10) hx hb hts miM_matched_X2 hown hK hP 0 rfl rfl 2 (by decide) (hts _ mbM_matched_1) (fun _ h9 => h9) rfl dM_matched_12 ?_
                refine lv_iload_n hx hb dM_matched_15 rfl (lv_at hl 3 rfl) ?_
                refine lv_iload_n hx hb dM_matched_16 rfl (lv_at hl 0 rfl) ?_
                refine lv_iadd hx hb dM_matched_17 ?_
                refine va_iald hx hb hK hP 2 0 rfl rfl (in_fr hf 6 (by decide) _ rfl) dM_matched_18 ?_
                refine lv_iconst (v := 1) hx hb dM_matched_19 (by decide) ?_
                refine lv_iand hx hb dM_matched_20 ?_
                refine lv_iadd hx hb dM_matched_21 ?_
                refine lv_istore_n (lv' := [(2, .int (((((((0 + ((z (fr + 0).toNatClampNeg) &&& 1)) + ((z (fr + 1).toNatClampNeg) &&& 1)) + ((z (fr + 2).toNatClampNeg) &&& 1)) + ((z (fr + 3).toNatClampNeg) &&& 1)) + ((z (fr + 4).toNatClampNeg) &&& 1)) + ((z (fr + 5).toNatClampNeg) &&& 1)) + ((z (fr + 6).toNatClampNeg) &&& 1))), (3, .int 6), (0, .ref k0), (1, .int fr)]) hx hb dM_matched_22 rfl hl (by decide) rfl (fun ls hl => ?_)
                refine lv_iinc (v := 7) (lv' := [(3, .int 7), (2, .int (((((((0 + ((z (fr + 0).toNatClampNeg) &&& 1)) + ((z (fr + 1).toNatClampNeg) &&& 1)) + ((z (fr + 2).toNatClampNeg) &&& 1)) + ((z (fr + 3).toNatClampNeg) &&& 1)) + ((z (fr + 4).toNatClampNeg) &&& 1)) + ((z (fr + 5).toNatClampNeg) &&& 1)) + ((z (fr + 6).toNatClampNeg) &&& 1))), (0, .ref k0), (1, .int fr)]) hx hb dM_matched_23 hl (k := 1) rfl rfl (by decide) rfl (fun ls hl => ?_)
                refine lv_goto (tgt := 4) hx hb dM_matched_26 (by decide) ?_
                refine lv_iload_n hx hb dM_matched_4 rfl (lv_at hl 0 rfl) ?_
                refine lv_bipush (v := 8) hx hb dM_matched_5 (by decide) ?_
                refine lv_icmp_ge (tgt := 29) hx hb dM_matched_7 (by decide) (fun c_8 => ?_) (fun c_8 => ?_)
                · exact absurd c_8 (by decide)
                · skip
                  refine lv_iload_n hx hb dM_matched_10 rfl (lv_at hl 1 rfl) ?_
                  refine lv_aload_n hx hb dM_matched_11 rfl (lv_at hl 2 rfl) ?_
                  refine va_get (D := (dC, dI)) (ci := 2) (v := .ref zb) (C := RX2) (T := TX2) (N := 10) hx hb hts miM_matched_X2 hown hK hP 0 rfl rfl 2 (by decide) (hts _ mbM_matched_1) (fun _ h9 => h9) rfl dM_matched_12 ?_
                  refine lv_iload_n hx hb dM_matched_15 rfl (lv_at hl 3 rfl) ?_
                  refine lv_iload_n hx hb dM_matched_16 rfl (lv_at hl 0 rfl) ?_
                  refine lv_iadd hx hb dM_matched_17 ?_
                  refine va_iald hx hb hK hP 2 0 rfl rfl (in_fr hf 7 (by decide) _ rfl) dM_matched_18 ?_
                  refine lv_iconst (v := 1) hx hb dM_matched_19 (by decide) ?_
                  refine lv_iand hx hb dM_matched_20 ?_
                  refine lv_iadd hx hb dM_matched_21 ?_
                  refine lv_istore_n (lv' := [(2, .int ((((((((0 + ((z (fr + 0).toNatClampNeg) &&& 1)) + ((z (fr + 1).toNatClampNeg) &&& 1)) + ((z (fr + 2).toNatClampNeg) &&& 1)) + ((z (fr + 3).toNatClampNeg) &&& 1)) + ((z (fr + 4).toNatClampNeg) &&& 1)) + ((z (fr + 5).toNatClampNeg) &&& 1)) + ((z (fr + 6).toNatClampNeg) &&& 1)) + ((z (fr + 7).toNatClampNeg) &&& 1))), (3, .int 7), (0, .ref k0), (1, .int fr)]) hx hb dM_matched_22 rfl hl (by decide) rfl (fun ls hl => ?_)
                  refine lv_iinc (v := 8) (lv' := [(3, .int 8), (2, .int ((((((((0 + ((z (fr + 0).toNatClampNeg) &&& 1)) + ((z (fr + 1).toNatClampNeg) &&& 1)) + ((z (fr + 2).toNatClampNeg) &&& 1)) + ((z (fr + 3).toNatClampNeg) &&& 1)) + ((z (fr + 4).toNatClampNeg) &&& 1)) + ((z (fr + 5).toNatClampNeg) &&& 1)) + ((z (fr + 6).toNatClampNeg) &&& 1)) + ((z (fr + 7).toNatClampNeg) &&& 1))), (0, .ref k0), (1, .int fr)]) hx hb dM_matched_23 hl (k := 1) rfl rfl (by decide) rfl (fun ls hl => ?_)
                  refine lv_goto (tgt := 4) hx hb dM_matched_26 (by decide) ?_
                  refine lv_iload_n hx hb dM_matched_4 rfl (lv_at hl 0 rfl) ?_
                  refine lv_bipush (v := 8) hx hb dM_matched_5 (by decide) ?_
                  refine lv_icmp_ge (tgt := 29) hx hb dM_matched_7 (by decide) (fun c_9 => ?_) (fun c_9 => ?_)
                  · skip
                    refine lv_iload_n hx hb dM_matched_29 rfl (lv_at hl 1 rfl) ?_
                    exact W.iret (v := (((((((0 + ((z (fr + 0).toNatClampNeg) &&& 1)) + ((z (fr + 1).toNatClampNeg) &&& 1)) + ((z (fr + 2).toNatClampNeg) &&& 1)) + ((z (fr + 3).toNatClampNeg) &&& 1)) + ((z (fr + 4).toNatClampNeg) &&& 1)) + ((z (fr + 5).toNatClampNeg) &&& 1)) + ((z (fr + 6).toNatClampNeg) &&& 1)) + ((z (fr + 7).toNatClampNeg) &&& 1)) hx hb hr (fun t ht hW => ⟨(((((((0 + ((z (fr + 0).toNatClampNeg) &&& 1)) + ((z (fr + 1).toNatClampNeg) &&& 1)) + ((z (fr + 2).toNatClampNeg) &&& 1)) + ((z (fr + 3).toNatClampNeg) &&& 1)) + ((z (fr + 4).toNatClampNeg) &&& 1)) + ((z (fr + 5).toNatClampNeg) &&& 1)) + ((z (fr + 6).toNatClampNeg) &&& 1)) + ((z (fr + 7).toNatClampNeg) &&& 1), rfl, by first | rfl | (unfold s_M_matched; rfl), ht⟩) (fun q h => by cases h) dM_matched_30
                  · exact absurd c_9 (by decide)
/-- the first i sets made even, as the reference does it -/
def s_mclr (z : Nat → Int32) (b : Int32) : Nat → Nat → Int32
  | 0 => z
  | i + 1 => upd (s_mclr z b i) (b + nI i).toNatClampNeg (s_mclr z b i (b + nI i).toNatClampNeg - (s_mclr z b i (b + nI i).toNatClampNeg &&& 1))
theorem mclr_s (z : Nat → Int32) (b : Int32) (i : Nat) (K : Int32) (hK : K = nI i) : upd (s_mclr z b i) (b + K).toNatClampNeg (s_mclr z b i (b + K).toNatClampNeg - (s_mclr z b i (b + K).toNatClampNeg &&& 1)) = s_mclr z b (i + 1) := by
  subst hK
  rfl
set_option maxRecDepth 100000 in
theorem miM_forget_X2 : ∀ w ∈ u_ws RX2 TX2 10, w ∈ wsM_forget := by decide +kernel
set_option maxRecDepth 100000 in
theorem mbM_forget_1 : (.fieldLink RX2 17 "SoftMapsModel" "thrown" "I" : Cond) ∈ wsM_forget := by decide +kernel
set_option maxRecDepth 100000 in
theorem mbM_forget_2 : (.fieldLink RX2 14 "SoftMapsModel" "specials" "[I" : Cond) ∈ wsM_forget := by decide +kernel
def s_M_forget (z : Nat → Int32) (dd : Int32) : Int32 × Int32 × (Nat → Int32) :=
  if dd = 0 then
    (s_M_matched z 0, (0, s_mclr z 0 8))
  else
    (s_M_matched z 16, (0, s_mclr z 16 8))
set_option maxHeartbeats 4000000 in
set_option maxRecDepth 100000 in
theorem c_M_forget (l : Launch) (dC : Nat → ClassId) (dI : Nat → Nat → Nat) (sz : Nat) (k0 yb zb : Nat) (cI : ClassId) (y z : Nat → Int32) (th a1 a2 a3 a4 a5 a6 fo : Int32) (dd : Int32)  : Met l yM_forget wsM_forget ({ frames := 1, cells := 0, slots := 0, locals := 23 }) (va_Pc [.ref k0, .int dd] (fun U => U.heap.size = sz ∧ va_P (dC, dI) vwCl [(k0, .inr (2, [.int th, .ref yb, .ref zb, .int a1, .int a2, .int a3, .int a4, .int a5, .int a6, .int fo])), (yb, .inl (cI, 65536, .inl y)), (zb, .inl (cI, 33, .inl z))] U.heap ∧ va_K (dC, dI) vwCl [(cI, .int)] U ∧ va_D (fun _ => True) [(k0, .inr (2, [.int th, .ref yb, .ref zb, .int a1, .int a2, .int a3, .int a4, .int a5, .int a6, .int fo])), (yb, .inl (cI, 65536, .inl y)), (zb, .inl (cI, 33, .inl z))])) (va_Qi (fun (a_ : Int32) (u : Int32 × (Nat → Int32)) => (a_, u) = s_M_forget z dd) (fun (u : Int32 × (Nat → Int32)) (t : State) => va_P (dC, dI) vwCl [(k0, .inr (2, [.int u.1, .ref yb, .ref zb, .int a1, .int a2, .int a3, .int a4, .int a5, .int a6, .int fo])), (yb, .inl (cI, 65536, .inl y)), (zb, .inl (cI, 33, .inl u.2))] t.heap ∧ va_K (dC, dI) vwCl [(cI, .int)] t ∧ va_D (va_A [(k0, .inr (2, [.int th, .ref yb, .ref zb, .int a1, .int a2, .int a3, .int a4, .int a5, .int a6, .int fo])), (yb, .inl (cI, 65536, .inl y)), (zb, .inl (cI, 33, .inl z))] sz) [(k0, .inr (2, [.int u.1, .ref yb, .ref zb, .int a1, .int a2, .int a3, .int a4, .int a5, .int a6, .int fo])), (yb, .inl (cI, 65536, .inl y)), (zb, .inl (cI, 33, .inl u.2))]) (va_A [(k0, .inr (2, [.int th, .ref yb, .ref zb, .int a1, .int a2, .int a3, .int a4, .int a5, .int a6, .int fo])), (yb, .inl (cI, 65536, .inl y)), (zb, .inl (cI, 33, .inl z))] sz)) 0 0 (va_A [(k0, .inr (2, [.int th, .ref yb, .ref zb, .int a1, .int a2, .int a3, .int a4, .int a5, .int a6, .int fo])), (yb, .inl (cI, 65536, .inl y)), (zb, .inl (cI, 33, .inl z))] sz) := by
  refine Met.ofW (cc := cM_forget) (maxL := 5) (ret := (some .int)) (by decide) rfl ?_
  intro p e s m args below meth c s₁ B hml hv
  obtain ⟨rfl, hsz, hP, hK, hD0⟩ := hv
  have hx := B.exec
  have hb := B.bytes
  have hr := B.returns
  have hts := atoms_spec (ws := wsM_forget) B.pre
  have hown : s.vm.findClass RX2 = some m.cls := findClass_of_methodNamed B.named
  have hlocks := B.notSynchronized
  subst hsz
  have hD := hD0.self (sz := s.heap.size)
  generalize hAe : va_A [(k0, .inr (2, [.int th, .ref yb, .ref zb, .int a1, .int a2, .int a3, .int a4, .int a5, .int a6, .int fo])), (yb, .inl (cI, 65536, .inl y)), (zb, .inl (cI, 33, .inl z))] s.heap.size = A at hD ⊢
  have hA : ∀ q : Nat, s.heap.size ≤ q → A q := fun q h => by rw [← hAe]; exact Or.inr h
  have hS : va_S A s.heap s.heap [] := va_S.rf
  have hP : va_P (dC, dI) vwCl [(k0, .inr (2, [.int th, .ref yb, .ref zb, .int a1, .int a2, .int a3, .int a4, .int a5, .int a6, .int fo])), (yb, .inl (cI, 65536, .inl y)), (zb, .inl (cI, 33, .inl z))] s.heap := hP
  have hl := lv_entry ([.ref k0, .int dd]) (n := 5) (Nat.le_of_ble_eq_true rfl)
  rw [lg_entry_eq]
  generalize (lg_sl ([.ref k0, .int dd]) ++ List.replicate (5 - (lg_sl ([.ref k0, .int dd])).length) Slot.unset).toArray = ls at hl ⊢
  have hl : lv_has ls 5 [(0, .ref k0), (1, .int dd)] := hl
  refine lv_aload_n hx hb dM_forget_0 rfl (lv_at hl 0 rfl) ?_
  refine lv_iconst (v := 0) hx hb dM_forget_1 (by decide) ?_
  refine va_put (D := (dC, dI)) (ci := 2) (v := .int 0) (ty := tyX2 0) (C := RX2) (T := TX2) (N := 10) hx hb hts miM_forget_X2 tyX2 tyX2_ok nmX2 hown hK hP hD hS 0 rfl rfl 0 (by decide) (hts _ mbM_forget_1) (fun _ h9 => h9) rfl (by decide +kernel) rfl rfl (Nat.le_of_ble_eq_true rfl) dM_forget_2 (fun H locs hP hD hS => ?_)
  have hP : va_P (dC, dI) vwCl [(k0, .inr (2, [.int 0, .ref yb, .ref zb, .int a1, .int a2, .int a3, .int a4, .int a5, .int a6, .int fo])), (yb, .inl (cI, 65536, .inl y)), (zb, .inl (cI, 33, .inl z))] H := hP
  have hD : va_D A [(k0, .inr (2, [.int 0, .ref yb, .ref zb, .int a1, .int a2, .int a3, .int a4, .int a5, .int a6, .int fo])), (yb, .inl (cI, 65536, .inl y)), (zb, .inl (cI, 33, .inl z))] := hD
  refine lv_iload_n hx hb dM_forget_5 rfl (lv_at hl 1 rfl) ?_
  refine lv_if_eq (tgt := 14) hx hb dM_forget_6 (by decide) (fun c_1 => ?_) (fun c_1 => ?_)
  · skip
    refine lv_iconst (v := 0) hx hb dM_forget_14 (by decide) ?_
    refine lv_istore_n (lv' := [(2, .int 0), (0, .ref k0), (1, .int dd)]) hx hb dM_forget_15 rfl hl (by decide) rfl (fun ls hl => ?_)
    refine lv_aload_n hx hb dM_forget_16 rfl (lv_at hl 1 rfl) ?_
    refine lv_iload_n hx hb dM_forget_17 rfl (lv_at hl 0 rfl) ?_
    have hPc := hP.sub (ws' := [(k0, .inr (2, [.int 0, .ref yb, .ref zb, .int a1, .int a2, .int a3, .int a4, .int a5, .int a6, .int fo])), (yb, .inl (cI, 65536, .inl y)), (zb, .inl (cI, 33, .inl z))]) [0, 1, 2] rfl
    have hKc := hK.sub (tys' := [(cI, .int)]) [0] rfl
    refine vp_callSi (va_Run.run (va_runV (As := [.int 0]) (rest := []) ⟨hx, hb, hml, hown, hts⟩ (c_M_matched l dC dI k0 yb zb cI y z 0 a1 a2 a3 a4 a5 a6 fo 0 (Or.inl rfl)) (cwV 1 hts gM_forget_M_matched rfl rfl rfl (by decide +kernel) ⟨Nat.le_of_ble_eq_true rfl, Nat.le_of_ble_eq_true rfl⟩) ⟨fun a U g mk q => by obtain ⟨q0, qP, qK⟩ := q; exact ⟨q0, qP, va_K.moved (u := U) (U := U.calling g mk a) (Vm.Alike.refl U.vm) qK⟩, va_recv hKc hPc (ci := 2) (q0 := 0) rfl rfl, fun U hU hW => ⟨rfl, by rw [hU]; exact hPc, va_K.moved hW.alike hKc⟩⟩ rfl rfl hl.1 rfl (lv_room (Nat.le_of_ble_eq_true rfl)) dM_forget_18 ⟨Nat.le_of_ble_eq_true rfl, Nat.le_of_ble_eq_true rfl⟩)) (fun r_2 hw_3 => ?_)
    subst hw_3
    refine lv_istore_n (lv' := [(3, .int (s_M_matched z 0)), (2, .int 0), (0, .ref k0), (1, .int dd)]) hx hb dM_forget_21 rfl hl (by decide) rfl (fun ls hl => ?_)
    refine lv_iconst (v := 0) hx hb dM_forget_22 (by decide) ?_
    refine lv_istore (lv' := [(4, .int 0), (3, .int (s_M_matched z 0)), (2, .int 0), (0, .ref k0), (1, .int dd)]) hx hb dM_forget_23 hl (by decide) rfl (fun ls hl => ?_)
    refine lv_iload hx hb dM_forget_25 (lv_at hl 0 rfl) ?_
    refine lv_bipush (v := 8) hx hb dM_forget_27 (by decide) ?_
    refine lv_icmp_ge (tgt := 61) hx hb dM_forget_29 (by decide) (fun c_4 => ?_) (fun c_4 => ?_)
    · exact absurd c_4 (by decide)
    · skip
      refine lv_aload_n hx hb dM_forget_32 rfl (lv_at hl 3 rfl) ?_
      refine va_get (D := (dC, dI)) (ci := 2) (v := .ref zb) (C := RX2) (T := TX2) (N := 10) hx hb hts miM_forget_X2 hown hK hP 0 rfl rfl 2 (by decide) (hts _ mbM_forget_2) (fun _ h9 => h9) rfl dM_forget_33 ?_
      refine lv_iload_n hx hb dM_forget_36 rfl (lv_at hl 2 rfl) ?_
      refine lv_iload hx hb dM_forget_37 (lv_at hl 0 rfl) ?_
      refine lv_iadd hx hb dM_forget_39 ?_
      refine lv_dup2_11 hx hb dM_forget_40 rfl rfl ?_
      refine va_iald hx hb hK hP 2 0 rfl rfl (pk_in 0 33 (by decide)) dM_forget_41 ?_
      refine lv_aload_n hx hb dM_forget_42 rfl (lv_at hl 3 rfl) ?_
      refine va_get (D := (dC, dI)) (ci := 2) (v := .ref zb) (C := RX2) (T := TX2) (N := 10) hx hb hts miM_forget_X2 hown hK hP 0 rfl rfl 2 (by decide) (hts _ mbM_forget_2) (fun _ h9 => h9) rfl dM_forget_43 ?_
      refine lv_iload_n hx hb dM_forget_46 rfl (lv_at hl 2 rfl) ?_
      refine lv_iload hx hb dM_forget_47 (lv_at hl 0 rfl) ?_
      refine lv_iadd hx hb dM_forget_49 ?_
      refine va_iald hx hb hK hP 2 0 rfl rfl (pk_in 0 33 (by decide)) dM_forget_50 ?_
      refine lv_iconst (v := 1) hx hb dM_forget_51 (by decide) ?_
      refine lv_iand hx hb dM_forget_52 ?_
      refine lv_isub hx hb dM_forget_53 ?_
      refine va_iast hx hb hK hP hD hS 2 0 rfl rfl (pk_in 0 33 (by decide)) dM_forget_54 (fun H locs hP hD hS => ?_)
      have hPn : va_P (dC, dI) vwCl [(k0, .inr (2, [.int 0, .ref yb, .ref zb, .int a1, .int a2, .int a3, .int a4, .int a5, .int a6, .int fo])), (yb, .inl (cI, 65536, .inl y)), (zb, .inl (cI, 33, .inl (s_mclr z 0 1)))] H := (mclr_s z 0 0 0 rfl) ▸ hP
      have hDn : va_D A [(k0, .inr (2, [.int 0, .ref yb, .ref zb, .int a1, .int a2, .int a3, .int a4, .int a5, .int a6, .int fo])), (yb, .inl (cI, 65536, .inl y)), (zb, .inl (cI, 33, .inl (s_mclr z 0 1)))] := (mclr_s z 0 0 0 rfl) ▸ hD
      have hP := hPn
      have hD := hDn
      refine lv_iinc (v := 1) (lv' := [(4, .int 1), (3, .int (s_M_matched z 0)), (2, .int 0), (0, .ref k0), (1, .int dd)]) hx hb dM_forget_55 hl (k := 0) rfl rfl (by decide) rfl (fun ls hl => ?_)
      refine lv_goto (tgt := 25) hx hb dM_forget_58 (by decide) ?_
      refine lv_iload hx hb dM_forget_25 (lv_at hl 0 rfl) ?_
      refine lv_bipush (v := 8) hx hb dM_forget_27 (by decide) ?_
      refine lv_icmp_ge (tgt := 61) hx hb dM_forget_29 (by decide) (fun c_5 => ?_) (fun c_5 => ?_)
      · exact absurd c_5 (by decide)
      · skip
        refine lv_aload_n hx hb dM_forget_32 rfl (lv_at hl 3 rfl) ?_
        refine va_get (D := (dC, dI)) (ci := 2) (v := .ref zb) (C := RX2) (T := TX2) (N := 10) hx hb hts miM_forget_X2 hown hK hP 0 rfl rfl 2 (by decide) (hts _ mbM_forget_2) (fun _ h9 => h9) rfl dM_forget_33 ?_
        refine lv_iload_n hx hb dM_forget_36 rfl (lv_at hl 2 rfl) ?_
        refine lv_iload hx hb dM_forget_37 (lv_at hl 0 rfl) ?_
        refine lv_iadd hx hb dM_forget_39 ?_
        refine lv_dup2_11 hx hb dM_forget_40 rfl rfl ?_
        refine va_iald hx hb hK hP 2 0 rfl rfl (pk_in 1 33 (by decide)) dM_forget_41 ?_
        refine lv_aload_n hx hb dM_forget_42 rfl (lv_at hl 3 rfl) ?_
        refine va_get (D := (dC, dI)) (ci := 2) (v := .ref zb) (C := RX2) (T := TX2) (N := 10) hx hb hts miM_forget_X2 hown hK hP 0 rfl rfl 2 (by decide) (hts _ mbM_forget_2) (fun _ h9 => h9) rfl dM_forget_43 ?_
        refine lv_iload_n hx hb dM_forget_46 rfl (lv_at hl 2 rfl) ?_
        refine lv_iload hx hb dM_forget_47 (lv_at hl 0 rfl) ?_
        refine lv_iadd hx hb dM_forget_49 ?_
        refine va_iald hx hb hK hP 2 0 rfl rfl (pk_in 1 33 (by decide)) dM_forget_50 ?_
        refine lv_iconst (v := 1) hx hb dM_forget_51 (by decide) ?_
        refine lv_iand hx hb dM_forget_52 ?_
        refine lv_isub hx hb dM_forget_53 ?_
        refine va_iast hx hb hK hP hD hS 2 0 rfl rfl (pk_in 1 33 (by decide)) dM_forget_54 (fun H locs hP hD hS => ?_)
        have hPn : va_P (dC, dI) vwCl [(k0, .inr (2, [.int 0, .ref yb, .ref zb, .int a1, .int a2, .int a3, .int a4, .int a5, .int a6, .int fo])), (yb, .inl (cI, 65536, .inl y)), (zb, .inl (cI, 33, .inl (s_mclr z 0 2)))] H := (mclr_s z 0 1 1 rfl) ▸ hP
        have hDn : va_D A [(k0, .inr (2, [.int 0, .ref yb, .ref zb, .int a1, .int a2, .int a3, .int a4, .int a5, .int a6, .int fo])), (yb, .inl (cI, 65536, .inl y)), (zb, .inl (cI, 33, .inl (s_mclr z 0 2)))] := (mclr_s z 0 1 1 rfl) ▸ hD
        have hP := hPn
        have hD := hDn
        refine lv_iinc (v := 2) (lv' := [(4, .int 2), (3, .int (s_M_matched z 0)), (2, .int 0), (0, .ref k0), (1, .int dd)]) hx hb dM_forget_55 hl (k := 0) rfl rfl (by decide) rfl (fun ls hl => ?_)
        refine lv_goto (tgt := 25) hx hb dM_forget_58 (by decide) ?_
        refine lv_iload hx hb dM_forget_25 (lv_at hl 0 rfl) ?_
        refine lv_bipush (v := 8) hx hb dM_forget_27 (by decide) ?_
        refine lv_icmp_ge (tgt := 61) hx hb dM_forget_29 (by decide) (fun c_6 => ?_) (fun c_6 => ?_)
        · exact absurd c_6 (by decide)
        · skip
          refine lv_aload_n hx hb dM_forget_32 rfl (lv_at hl 3 rfl) ?_
          refine va_get (D := (dC, dI)) (ci := 2) (v := .ref zb) (C := RX2) (T := TX2) (N := 10) hx hb hts miM_forget_X2 hown hK hP 0 rfl rfl 2 (by decide) (hts _ mbM_forget_2) (fun _ h9 => h9) rfl dM_forget_33 ?_
          refine lv_iload_n hx hb dM_forget_36 rfl (lv_at hl 2 rfl) ?_
          refine lv_iload hx hb dM_forget_37 (lv_at hl 0 rfl) ?_
          refine lv_iadd hx hb dM_forget_39 ?_
          refine lv_dup2_11 hx hb dM_forget_40 rfl rfl ?_
          refine va_iald hx hb hK hP 2 0 rfl rfl (pk_in 2 33 (by decide)) dM_forget_41 ?_
          refine lv_aload_n hx hb dM_forget_42 rfl (lv_at hl 3 rfl) ?_
          refine va_get (D := (dC, dI)) (ci := 2) (v := .ref zb) (C := RX2) (T := TX2) (N := 10) hx hb hts miM_forget_X2 hown hK hP 0 rfl rfl 2 (by decide) (hts _ mbM_forget_2) (fun _ h9 => h9) rfl dM_forget_43 ?_
          refine lv_iload_n hx hb dM_forget_46 rfl (lv_at hl 2 rfl) ?_
          refine lv_iload hx hb dM_forget_47 (lv_at hl 0 rfl) ?_
          refine lv_iadd hx hb dM_forget_49 ?_
          refine va_iald hx hb hK hP 2 0 rfl rfl (pk_in 2 33 (by decide)) dM_forget_50 ?_
          refine lv_iconst (v := 1) hx hb dM_forget_51 (by decide) ?_
          refine lv_iand hx hb dM_forget_52 ?_
          refine lv_isub hx hb dM_forget_53 ?_
          refine va_iast hx hb hK hP hD hS 2 0 rfl rfl (pk_in 2 33 (by decide)) dM_forget_54 (fun H locs hP hD hS => ?_)
          have hPn : va_P (dC, dI) vwCl [(k0, .inr (2, [.int 0, .ref yb, .ref zb, .int a1, .int a2, .int a3, .int a4, .int a5, .int a6, .int fo])), (yb, .inl (cI, 65536, .inl y)), (zb, .inl (cI, 33, .inl (s_mclr z 0 3)))] H := (mclr_s z 0 2 2 rfl) ▸ hP
          have hDn : va_D A [(k0, .inr (2, [.int 0, .ref yb, .ref zb, .int a1, .int a2, .int a3, .int a4, .int a5, .int a6, .int fo])), (yb, .inl (cI, 65536, .inl y)), (zb, .inl (cI, 33, .inl (s_mclr z 0 3)))] := (mclr_s z 0 2 2 rfl) ▸ hD
          have hP := hPn
          have hD := hDn
          refine lv_iinc (v := 3) (lv' := [(4, .int 3), (3, .int (s_M_matched z 0)), (2, .int 0), (0, .ref k0), (1, .int dd)]) hx hb dM_forget_55 hl (k := 0) rfl rfl (by decide) rfl (fun ls hl => ?_)
          refine lv_goto (tgt := 25) hx hb dM_forget_58 (by decide) ?_
          refine lv_iload hx hb dM_forget_25 (lv_at hl 0 rfl) ?_
          refine lv_bipush (v := 8) hx hb dM_forget_27 (by decide) ?_
          refine lv_icmp_ge (tgt := 61) hx hb dM_forget_29 (by decide) (fun c_7 => ?_) (fun c_7 => ?_)
          · exact absurd c_7 (by decide)
          · skip
            refine lv_aload_n hx hb dM_forget_32 rfl (lv_at hl 3 rfl) ?_
            refine va_get (D := (dC, dI)) (ci := 2) (v := .ref zb) (C := RX2) (T := TX2) (N := 10) hx hb hts miM_forget_X2 hown hK hP 0 rfl rfl 2 (by decide) (hts _ mbM_forget_2) (fun _ h9 => h9) rfl dM_forget_33 ?_
            refine lv_iload_n hx hb dM_forget_36 rfl (lv_at hl 2 rfl) ?_
            refine lv_iload hx hb dM_forget_37 (lv_at hl 0 rfl) ?_
            refine lv_iadd hx hb dM_forget_39 ?_
            refine lv_dup2_11 hx hb dM_forget_40 rfl rfl ?_
            refine va_iald hx hb hK hP 2 0 rfl rfl (pk_in 3 33 (by decide)) dM_forget_41 ?_
            refine lv_aload_n hx hb dM_forget_42 rfl (lv_at hl 3 rfl) ?_
            refine va_get (D := (dC, dI)) (ci := 2) (v := .ref zb) (C := RX2) (T := TX2) (N := 10) hx hb hts miM_forget_X2 hown hK hP 0 rfl rfl 2 (by decide) (hts _ mbM_forget_2) (fun _ h9 => h9) rfl dM_forget_43 ?_
            refine lv_iload_n hx hb dM_forget_46 rfl (lv_at hl 2 rfl) ?_
            refine lv_iload hx hb dM_forget_47 (lv_at hl 0 rfl) ?_
            refine lv_iadd hx hb dM_forget_49 ?_
            refine va_iald hx hb hK hP 2 0 rfl rfl (pk_in 3 33 (by decide)) dM_forget_50 ?_
            refine lv_iconst (v := 1) hx hb dM_forget_51 (by decide) ?_
            refine lv_iand hx hb dM_forget_52 ?_
            refine lv_isub hx hb dM_forget_53 ?_
            refine va_iast hx hb hK hP hD hS 2 0 rfl rfl (pk_in 3 33 (by decide)) dM_forget_54 (fun H locs hP hD hS => ?_)
            have hPn : va_P (dC, dI) vwCl [(k0, .inr (2, [.int 0, .ref yb, .ref zb, .int a1, .int a2, .int a3, .int a4, .int a5, .int a6, .int fo])), (yb, .inl (cI, 65536, .inl y)), (zb, .inl (cI, 33, .inl (s_mclr z 0 4)))] H := (mclr_s z 0 3 3 rfl) ▸ hP
            have hDn : va_D A [(k0, .inr (2, [.int 0, .ref yb, .ref zb, .int a1, .int a2, .int a3, .int a4, .int a5, .int a6, .int fo])), (yb, .inl (cI, 65536, .inl y)), (zb, .inl (cI, 33, .inl (s_mclr z 0 4)))] := (mclr_s z 0 3 3 rfl) ▸ hD
            have hP := hPn
            have hD := hDn
            refine lv_iinc (v := 4) (lv' := [(4, .int 4), (3, .int (s_M_matched z 0)), (2, .int 0), (0, .ref k0), (1, .int dd)]) hx hb dM_forget_55 hl (k := 0) rfl rfl (by decide) rfl (fun ls hl => ?_)
            refine lv_goto (tgt := 25) hx hb dM_forget_58 (by decide) ?_
            refine lv_iload hx hb dM_forget_25 (lv_at hl 0 rfl) ?_
            refine lv_bipush (v := 8) hx hb dM_forget_27 (by decide) ?_
            refine lv_icmp_ge (tgt := 61) hx hb dM_forget_29 (by decide) (fun c_8 => ?_) (fun c_8 => ?_)
            · exact absurd c_8 (by decide)
            · skip
              refine lv_aload_n hx hb dM_forget_32 rfl (lv_at hl 3 rfl) ?_
              refine va_get (D := (dC, dI)) (ci := 2) (v := .ref zb) (C := RX2) (T := TX2) (N := 10) hx hb hts miM_forget_X2 hown hK hP 0 rfl rfl 2 (by decide) (hts _ mbM_forget_2) (fun _ h9 => h9) rfl dM_forget_33 ?_
              refine lv_iload_n hx hb dM_forget_36 rfl (lv_at hl 2 rfl) ?_
              refine lv_iload hx hb dM_forget_37 (lv_at hl 0 rfl) ?_
              refine lv_iadd hx hb dM_forget_39 ?_
              refine lv_dup2_11 hx hb dM_forget_40 rfl rfl ?_
              refine va_iald hx hb hK hP 2 0 rfl rfl (pk_in 4 33 (by decide)) dM_forget_41 ?_
              refine lv_aload_n hx hb dM_forget_42 rfl (lv_at hl 3 rfl) ?_
              refine va_get (D := (dC, dI)) (ci := 2) (v := .ref zb) (C := RX2) (T := TX2) (N := 10) hx hb hts miM_forget_X2 hown hK hP 0 rfl rfl 2 (by decide) (hts _ mbM_forget_2) (fun _ h9 => h9) rfl dM_forget_43 ?_
              refine lv_iload_n hx hb dM_forget_46 rfl (lv_at hl 2 rfl) ?_
              refine lv_iload hx hb dM_forget_47 (lv_at hl 0 rfl) ?_
              refine lv_iadd hx hb dM_forget_49 ?_
              refine va_iald hx hb hK hP 2 0 rfl rfl (pk_in 4 33 (by decide)) dM_forget_50 ?_
              refine lv_iconst (v := 1) hx hb dM_forget_51 (by decide) ?_
              refine lv_iand hx hb dM_forget_52 ?_
              refine lv_isub hx hb dM_forget_53 ?_
              refine va_iast hx hb hK hP hD hS 2 0 rfl rfl (pk_in 4 33 (by decide)) dM_forget_54 (fun H locs hP hD hS => ?_)
              have hPn : va_P (dC, dI) vwCl [(k0, .inr (2, [.int 0, .ref yb, .ref zb, .int a1, .int a2, .int a3, .int a4, .int a5, .int a6, .int fo])), (yb, .inl (cI, 65536, .inl y)), (zb, .inl (cI, 33, .inl (s_mclr z 0 5)))] H := (mclr_s z 0 4 4 rfl) ▸ hP
              have hDn : va_D A [(k0, .inr (2, [.int 0, .ref yb, .ref zb, .int a1, .int a2, .int a3, .int a4, .int a5, .int a6, .int fo])), (yb, .inl (cI, 65536, .inl y)), (zb, .inl (cI, 33, .inl (s_mclr z 0 5)))] := (mclr_s z 0 4 4 rfl) ▸ hD
              have hP := hPn
              have hD := hDn
              refine lv_iinc (v := 5) (lv' := [(4, .int 5), (3, .int (s_M_matched z 0)), (2, .int 0), (0, .ref k0), (1, .int dd)]) hx hb dM_forget_55 hl (k := 0) rfl rfl (by decide) rfl (fun ls hl => ?_)
              refine lv_goto (tgt := 25) hx hb dM_forget_58 (by decide) ?_
              refine lv_iload hx hb dM_forget_25 (lv_at hl 0 rfl) ?_
              refine lv_bipush (v := 8) hx hb dM_forget_27 (by decide) ?_
              refine lv_icmp_ge (tgt := 61) hx hb dM_forget_29 (by decide) (fun c_9 => ?_) (fun c_9 => ?_)
              · exact absurd c_9 (by decide)
              · skip
                refine lv_aload_n hx hb dM_forget_32 rfl (lv_at hl 3 rfl) ?_
                refine va_get (D := (dC, dI)) (ci := 2) (v := .ref zb) (C := RX2) (T := TX2) (N := 10) hx hb hts miM_forget_X2 hown hK hP 0 rfl rfl 2 (by decide) (hts _ mbM_forget_2) (fun _ h9 => h9) rfl dM_forget_33 ?_
                refine lv_iload_n hx hb dM_forget_36 rfl (lv_at hl 2 rfl) ?_
                refine lv_iload hx hb dM_forget_37 (lv_at hl 0 rfl) ?_
                refine lv_iadd hx hb dM_forget_39 ?_
                refine lv_dup2_11 hx hb dM_forget_40 rfl rfl ?_
                refine va_iald hx hb hK hP 2 0 rfl rfl (pk_in 5 33 (by decide)) dM_forget_41 ?_
                refine lv_aload_n hx hb dM_forget_42 rfl (lv_at hl 3 rfl) ?_
                refine va_get (D := (dC, dI)) (ci := 2) (v := .ref zb) (C := RX2) (T := TX2) (N := 10) hx hb hts miM_forget_X2 hown hK hP 0 rfl rfl 2 (by decide) (hts _ mbM_forget_2) (fun _ h9 => h9) rfl dM_forget_43 ?_
                refine lv_iload_n hx hb dM_forget_46 rfl (lv_at hl 2 rfl) ?_
                refine lv_iload hx hb dM_forget_47 (lv_at hl 0 rfl) ?_
                refine lv_iadd hx hb dM_forget_49 ?_
                refine va_iald hx hb hK hP 2 0 rfl rfl (pk_in 5 33 (by decide)) dM_forget_50 ?_
                refine lv_iconst (v := 1) hx hb dM_forget_51 (by decide) ?_
                refine lv_iand hx hb dM_forget_52 ?_
                refine lv_isub hx hb dM_forget_53 ?_
                refine va_iast hx hb hK hP hD hS 2 0 rfl rfl (pk_in 5 33 (by decide)) dM_forget_54 (fun H locs hP hD hS => ?_)
                have hPn : va_P (dC, dI) vwCl [(k0, .inr (2, [.int 0, .ref yb, .ref zb, .int a1, .int a2, .int a3, .int a4, .int a5, .int a6, .int fo])), (yb, .inl (cI, 65536, .inl y)), (zb, .inl (cI, 33, .inl (s_mclr z 0 6)))] H := (mclr_s z 0 5 5 rfl) ▸ hP
                have hDn : va_D A [(k0, .inr (2, [.int 0, .ref yb, .ref zb, .int a1, .int a2, .int a3, .int a4, .int a5, .int a6, .int fo])), (yb, .inl (cI, 65536, .inl y)), (zb, .inl (cI, 33, .inl (s_mclr z 0 6)))] := (mclr_s z 0 5 5 rfl) ▸ hD
                have hP := hPn
                have hD := hDn
                refine lv_iinc (v := 6) (lv' := [(4, .int 6), (3, .int (s_M_matched z 0)), (2, .int 0), (0, .ref k0), (1, .int dd)]) hx hb dM_forget_55 hl (k := 0) rfl rfl (by decide) rfl (fun ls hl => ?_)
                refine lv_goto (tgt := 25) hx hb dM_forget_58 (by decide) ?_
                refine lv_iload hx hb dM_forget_25 (lv_at hl 0 rfl) ?_
                refine lv_bipush (v := 8) hx hb dM_forget_27 (by decide) ?_
                refine lv_icmp_ge (tgt := 61) hx hb dM_forget_29 (by decide) (fun c_10 => ?_) (fun c_10 => ?_)
                · exact absurd c_10 (by decide)
                · skip
                  refine lv_aload_n hx hb dM_forget_32 rfl (lv_at hl 3 rfl) ?_
                  refine va_get (D := (dC, dI)) (ci := 2) (v := .ref zb) (C := RX2) (T := TX2) (N := 10) hx hb hts miM_forget_X2 hown hK hP 0 rfl rfl 2 (by decide) (hts _ mbM_forget_2) (fun _ h9 => h9) rfl dM_forget_33 ?_
                  refine lv_iload_n hx hb dM_forget_36 rfl (lv_at hl 2 rfl) ?_
                  refine lv_iload hx hb dM_forget_37 (lv_at hl 0 rfl) ?_
                  refine lv_iadd hx hb dM_forget_39 ?_
                  refine lv_dup2_11 hx hb dM_forget_40 rfl rfl ?_
                  refine va_iald hx hb hK hP 2 0 rfl rfl (pk_in 6 33 (by decide)) dM_forget_41 ?_
                  refine lv_aload_n hx hb dM_forget_42 rfl (lv_at hl 3 rfl) ?_
                  refine va_get (D := (dC, dI)) (ci := 2) (v := .ref zb) (C := RX2) (T := TX2) (N := 10) hx hb hts miM_forget_X2 hown hK hP 0 rfl rfl 2 (by decide) (hts _ mbM_forget_2) (fun _ h9 => h9) rfl dM_forget_43 ?_
                  refine lv_iload_n hx hb dM_forget_46 rfl (lv_at hl 2 rfl) ?_
                  refine lv_iload hx hb dM_forget_47 (lv_at hl 0 rfl) ?_
                  refine lv_iadd hx hb dM_forget_49 ?_
                  refine va_iald hx hb hK hP 2 0 rfl rfl (pk_in 6 33 (by decide)) dM_forget_50 ?_
                  refine lv_iconst (v := 1) hx hb dM_forget_51 (by decide) ?_
                  refine lv_iand hx hb dM_forget_52 ?_
                  refine lv_isub hx hb dM_forget_53 ?_
                  refine va_iast hx hb hK hP hD hS 2 0 rfl rfl (pk_in 6 33 (by decide)) dM_forget_54 (fun H locs hP hD hS => ?_)
                  have hPn : va_P (dC, dI) vwCl [(k0, .inr (2, [.int 0, .ref yb, .ref zb, .int a1, .int a2, .int a3, .int a4, .int a5, .int a6, .int fo])), (yb, .inl (cI, 65536, .inl y)), (zb, .inl (cI, 33, .inl (s_mclr z 0 7)))] H := (mclr_s z 0 6 6 rfl) ▸ hP
                  have hDn : va_D A [(k0, .inr (2, [.int 0, .ref yb, .ref zb, .int a1, .int a2, .int a3, .int a4, .int a5, .int a6, .int fo])), (yb, .inl (cI, 65536, .inl y)), (zb, .inl (cI, 33, .inl (s_mclr z 0 7)))] := (mclr_s z 0 6 6 rfl) ▸ hD
                  have hP := hPn
                  have hD := hDn
                  refine lv_iinc (v := 7) (lv' := [(4, .int 7), (3, .int (s_M_matched z 0)), (2, .int 0), (0, .ref k0), (1, .int dd)]) hx hb dM_forget_55 hl (k := 0) rfl rfl (by decide) rfl (fun ls hl => ?_)
                  refine lv_goto (tgt := 25) hx hb dM_forget_58 (by decide) ?_
                  refine lv_iload hx hb dM_forget_25 (lv_at hl 0 rfl) ?_
                  refine lv_bipush (v := 8) hx hb dM_forget_27 (by decide) ?_
                  refine lv_icmp_ge (tgt := 61) hx hb dM_forget_29 (by decide) (fun c_11 => ?_) (fun c_11 => ?_)
                  · exact absurd c_11 (by decide)
                  · skip
                    refine lv_aload_n hx hb dM_forget_32 rfl (lv_at hl 3 rfl) ?_
                    refine va_get (D := (dC, dI)) (ci := 2) (v := .ref zb) (C := RX2) (T := TX2) (N := 10) hx hb hts miM_forget_X2 hown hK hP 0 rfl rfl 2 (by decide) (hts _ mbM_forget_2) (fun _ h9 => h9) rfl dM_forget_33 ?_
                    refine lv_iload_n hx hb dM_forget_36 rfl (lv_at hl 2 rfl) ?_
                    refine lv_iload hx hb dM_forget_37 (lv_at hl 0 rfl) ?_
                    refine lv_iadd hx hb dM_forget_39 ?_
                    refine lv_dup2_11 hx hb dM_forget_40 rfl rfl ?_
                    refine va_iald hx hb hK hP 2 0 rfl rfl (pk_in 7 33 (by decide)) dM_forget_41 ?_
                    refine lv_aload_n hx hb dM_forget_42 rfl (lv_at hl 3 rfl) ?_
                    refine va_get (D := (dC, dI)) (ci := 2) (v := .ref zb) (C := RX2) (T := TX2) (N := 10) hx hb hts miM_forget_X2 hown hK hP 0 rfl rfl 2 (by decide) (hts _ mbM_forget_2) (fun _ h9 => h9) rfl dM_forget_43 ?_
                    refine lv_iload_n hx hb dM_forget_46 rfl (lv_at hl 2 rfl) ?_
                    refine lv_iload hx hb dM_forget_47 (lv_at hl 0 rfl) ?_
                    refine lv_iadd hx hb dM_forget_49 ?_
                    refine va_iald hx hb hK hP 2 0 rfl rfl (pk_in 7 33 (by decide)) dM_forget_50 ?_
                    refine lv_iconst (v := 1) hx hb dM_forget_51 (by decide) ?_
                    refine lv_iand hx hb dM_forget_52 ?_
                    refine lv_isub hx hb dM_forget_53 ?_
                    refine va_iast hx hb hK hP hD hS 2 0 rfl rfl (pk_in 7 33 (by decide)) dM_forget_54 (fun H locs hP hD hS => ?_)
                    have hPn : va_P (dC, dI) vwCl [(k0, .inr (2, [.int 0, .ref yb, .ref zb, .int a1, .int a2, .int a3, .int a4, .int a5, .int a6, .int fo])), (yb, .inl (cI, 65536, .inl y)), (zb, .inl (cI, 33, .inl (s_mclr z 0 8)))] H := (mclr_s z 0 7 7 rfl) ▸ hP
                    have hDn : va_D A [(k0, .inr (2, [.int 0, .ref yb, .ref zb, .int a1, .int a2, .int a3, .int a4, .int a5, .int a6, .int fo])), (yb, .inl (cI, 65536, .inl y)), (zb, .inl (cI, 33, .inl (s_mclr z 0 8)))] := (mclr_s z 0 7 7 rfl) ▸ hD
                    have hP := hPn
                    have hD := hDn
                    refine lv_iinc (v := 8) (lv' := [(4, .int 8), (3, .int (s_M_matched z 0)), (2, .int 0), (0, .ref k0), (1, .int dd)]) hx hb dM_forget_55 hl (k := 0) rfl rfl (by decide) rfl (fun ls hl => ?_)
                    refine lv_goto (tgt := 25) hx hb dM_forget_58 (by decide) ?_
                    refine lv_iload hx hb dM_forget_25 (lv_at hl 0 rfl) ?_
                    refine lv_bipush (v := 8) hx hb dM_forget_27 (by decide) ?_
                    refine lv_icmp_ge (tgt := 61) hx hb dM_forget_29 (by decide) (fun c_12 => ?_) (fun c_12 => ?_)
                    · skip
                      refine lv_iload_n hx hb dM_forget_61 rfl (lv_at hl 1 rfl) ?_
                      exact W.iret (v := s_M_matched z 0) hx hb hr (fun t ht hW => ⟨⟨s_M_matched z 0, (0, s_mclr z 0 8), rfl, by simp only [s_M_forget, if_pos c_1], by rw [ht]; exact hP, va_K.moved hW.alike hK, hD⟩, hS.F ht⟩) hS.2.2 dM_forget_62
                    · exact absurd c_12 (by decide)
  · skip
    refine lv_bipush (v := 16) hx hb dM_forget_9 (by decide) ?_
    refine lv_goto (tgt := 15) hx hb dM_forget_11 (by decide) ?_
    refine lv_istore_n (lv' := [(2, .int 16), (0, .ref k0), (1, .int dd)]) hx hb dM_forget_15 rfl hl (by decide) rfl (fun ls hl => ?_)
    refine lv_aload_n hx hb dM_forget_16 rfl (lv_at hl 1 rfl) ?_
    refine lv_iload_n hx hb dM_forget_17 rfl (lv_at hl 0 rfl) ?_
    have hPc := hP.sub (ws' := [(k0, .inr (2, [.int 0, .ref yb, .ref zb, .int a1, .int a2, .int a3, .int a4, .int a5, .int a6, .int fo])), (yb, .inl (cI, 65536, .inl y)), (zb, .inl (cI, 33, .inl z))]) [0, 1, 2] rfl
    have hKc := hK.sub (tys' := [(cI, .int)]) [0] rfl
    refine vp_callSi (va_Run.run (va_runV (As := [.int 16]) (rest := []) ⟨hx, hb, hml, hown, hts⟩ (c_M_matched l dC dI k0 yb zb cI y z 0 a1 a2 a3 a4 a5 a6 fo 16 (Or.inr rfl)) (cwV 1 hts gM_forget_M_matched rfl rfl rfl (by decide +kernel) ⟨Nat.le_of_ble_eq_true rfl, Nat.le_of_ble_eq_true rfl⟩) ⟨fun a U g mk q => by obtain ⟨q0, qP, qK⟩ := q; exact ⟨q0, qP, va_K.moved (u := U) (U := U.calling g mk a) (Vm.Alike.refl U.vm) qK⟩, va_recv hKc hPc (ci := 2) (q0 := 0) rfl rfl, fun U hU hW => ⟨rfl, by rw [hU]; exact hPc, va_K.moved hW.alike hKc⟩⟩ rfl rfl hl.1 rfl (lv_room (Nat.le_of_ble_eq_true rfl)) dM_forget_18 ⟨Nat.le_of_ble_eq_true rfl, Nat.le_of_ble_eq_true rfl⟩)) (fun r_13 hw_14 => ?_)
    subst hw_14
    refine lv_istore_n (lv' := [(3, .int (s_M_matched z 16)), (2, .int 16), (0, .ref k0), (1, .int dd)]) hx hb dM_forget_21 rfl hl (by decide) rfl (fun ls hl => ?_)
    refine lv_iconst (v := 0) hx hb dM_forget_22 (by decide) ?_
    refine lv_istore (lv' := [(4, .int 0), (3, .int (s_M_matched z 16)), (2, .int 16), (0, .ref k0), (1, .int dd)]) hx hb dM_forget_23 hl (by decide) rfl (fun ls hl => ?_)
    refine lv_iload hx hb dM_forget_25 (lv_at hl 0 rfl) ?_
    refine lv_bipush (v := 8) hx hb dM_forget_27 (by decide) ?_
    refine lv_icmp_ge (tgt := 61) hx hb dM_forget_29 (by decide) (fun c_15 => ?_) (fun c_15 => ?_)
    · exact absurd c_15 (by decide)
    · skip
      refine lv_aload_n hx hb dM_forget_32 rfl (lv_at hl 3 rfl) ?_
      refine va_get (D := (dC, dI)) (ci := 2) (v := .ref zb) (C := RX2) (T := TX2) (N := 10) hx hb hts miM_forget_X2 hown hK hP 0 rfl rfl 2 (by decide) (hts _ mbM_forget_2) (fun _ h9 => h9) rfl dM_forget_33 ?_
      refine lv_iload_n hx hb dM_forget_36 rfl (lv_at hl 2 rfl) ?_
      refine lv_iload hx hb dM_forget_37 (lv_at hl 0 rfl) ?_
      refine lv_iadd hx hb dM_forget_39 ?_
      refine lv_dup2_11 hx hb dM_forget_40 rfl rfl ?_
      refine va_iald hx hb hK hP 2 0 rfl rfl (pk_in 16 33 (by decide)) dM_forget_41 ?_
      refine lv_aload_n hx hb dM_forget_42 rfl (lv_at hl 3 rfl) ?_
      refine va_get (D := (dC, dI)) (ci := 2) (v := .ref zb) (C := RX2) (T := TX2) (N := 10) hx hb hts miM_forget_X2 hown hK hP 0 rfl rfl 2 (by decide) (hts _ mbM_forget_2) (fun _ h9 => h9) rfl dM_forget_43 ?_
      refine lv_iload_n hx hb dM_forget_46 rfl (lv_at hl 2 rfl) ?_
      refine lv_iload hx hb dM_forget_47 (lv_at hl 0 rfl) ?_
      refine lv_iadd hx hb dM_forget_49 ?_
      refine va_iald hx hb hK hP 2 0 rfl rfl (pk_in 16 33 (by decide)) dM_forget_50 ?_
      refine lv_iconst (v := 1) hx hb dM_forget_51 (by decide) ?_
      refine lv_iand hx hb dM_forget_52 ?_
      refine lv_isub hx hb dM_forget_53 ?_
      refine va_iast hx hb hK hP hD hS 2 0 rfl rfl (pk_in 16 33 (by decide)) dM_forget_54 (fun H locs hP hD hS => ?_)
      have hPn : va_P (dC, dI) vwCl [(k0, .inr (2, [.int 0, .ref yb, .ref zb, .int a1, .int a2, .int a3, .int a4, .int a5, .int a6, .int fo])), (yb, .inl (cI, 65536, .inl y)), (zb, .inl (cI, 33, .inl (s_mclr z 16 1)))] H := (mclr_s z 16 0 0 rfl) ▸ hP
      have hDn : va_D A [(k0, .inr (2, [.int 0, .ref yb, .ref zb, .int a1, .int a2, .int a3, .int a4, .int a5, .int a6, .int fo])), (yb, .inl (cI, 65536, .inl y)), (zb, .inl (cI, 33, .inl (s_mclr z 16 1)))] := (mclr_s z 16 0 0 rfl) ▸ hD
      have hP := hPn
      have hD := hDn
      refine lv_iinc (v := 1) (lv' := [(4, .int 1), (3, .int (s_M_matched z 16)), (2, .int 16), (0, .ref k0), (1, .int dd)]) hx hb dM_forget_55 hl (k := 0) rfl rfl (by decide) rfl (fun ls hl => ?_)
      refine lv_goto (tgt := 25) hx hb dM_forget_58 (by decide) ?_
      refine lv_iload hx hb dM_forget_25 (lv_at hl 0 rfl) ?_
      refine lv_bipush (v := 8) hx hb dM_forget_27 (by decide) ?_
      refine lv_icmp_ge (tgt := 61) hx hb dM_forget_29 (by decide) (fun c_16 => ?_) (fun c_16 => ?_)
      · exact absurd c_16 (by decide)
      · skip
        refine lv_aload_n hx hb dM_forget_32 rfl (lv_at hl 3 rfl) ?_
        refine va_get (D := (dC, dI)) (ci := 2) (v := .ref zb) (C := RX2) (T := TX2) (N := 10) hx hb hts miM_forget_X2 hown hK hP 0 rfl rfl 2 (by decide) (hts _ mbM_forget_2) (fun _ h9 => h9) rfl dM_forget_33 ?_
        refine lv_iload_n hx hb dM_forget_36 rfl (lv_at hl 2 rfl) ?_
        refine lv_iload hx hb dM_forget_37 (lv_at hl 0 rfl) ?_
        refine lv_iadd hx hb dM_forget_39 ?_
        refine lv_dup2_11 hx hb dM_forget_40 rfl rfl ?_
        refine va_iald hx hb hK hP 2 0 rfl rfl (pk_in 17 33 (by decide)) dM_forget_41 ?_
        refine lv_aload_n hx hb dM_forget_42 rfl (lv_at hl 3 rfl) ?_
        refine va_get (D := (dC, dI)) (ci := 2) (v := .ref zb) (C := RX2) (T := TX2) (N := 10) hx hb hts miM_forget_X2 hown hK hP 0 rfl rfl 2 (by decide) (hts _ mbM_forget_2) (fun _ h9 => h9) rfl dM_forget_43 ?_
        refine lv_iload_n hx hb dM_forget_46 rfl (lv_at hl 2 rfl) ?_
        refine lv_iload hx hb dM_forget_47 (lv_at hl 0 rfl) ?_
        refine lv_iadd hx hb dM_forget_49 ?_
        refine va_iald hx hb hK hP 2 0 rfl rfl (pk_in 17 33 (by decide)) dM_forget_50 ?_
        refine lv_iconst (v := 1) hx hb dM_forget_51 (by decide) ?_
        refine lv_iand hx hb dM_forget_52 ?_
        refine lv_isub hx hb dM_forget_53 ?_
        refine va_iast hx hb hK hP hD hS 2 0 rfl rfl (pk_in 17 33 (by decide)) dM_forget_54 (fun H locs hP hD hS => ?_)
        have hPn : va_P (dC, dI) vwCl [(k0, .inr (2, [.int 0, .ref yb, .ref zb, .int a1, .int a2, .int a3, .int a4, .int a5, .int a6, .int fo])), (yb, .inl (cI, 65536, .inl y)), (zb, .inl (cI, 33, .inl (s_mclr z 16 2)))] H := (mclr_s z 16 1 1 rfl) ▸ hP
        have hDn : va_D A [(k0, .inr (2, [.int 0, .ref yb, .ref zb, .int a1, .int a2, .int a3, .int a4, .int a5, .int a6, .int fo])), (yb, .inl (cI, 65536, .inl y)), (zb, .inl (cI, 33, .inl (s_mclr z 16 2)))] := (mclr_s z 16 1 1 rfl) ▸ hD
        have hP := hPn
        have hD := hDn
        refine lv_iinc (v := 2) (lv' := [(4, .int 2), (3, .int (s_M_matched z 16)), (2, .int 16), (0, .ref k0), (1, .int dd)]) hx hb dM_forget_55 hl (k := 0) rfl rfl (by decide) rfl (fun ls hl => ?_)
        refine lv_goto (tgt := 25) hx hb dM_forget_58 (by decide) ?_
        refine lv_iload hx hb dM_forget_25 (lv_at hl 0 rfl) ?_
        refine lv_bipush (v := 8) hx hb dM_forget_27 (by decide) ?_
        refine lv_icmp_ge (tgt := 61) hx hb dM_forget_29 (by decide) (fun c_17 => ?_) (fun c_17 => ?_)
        · exact absurd c_17 (by decide)
        · skip
          refine lv_aload_n hx hb dM_forget_32 rfl (lv_at hl 3 rfl) ?_
          refine va_get (D := (dC, dI)) (ci := 2) (v := .ref zb) (C := RX2) (T := TX2) (N := 10) hx hb hts miM_forget_X2 hown hK hP 0 rfl rfl 2 (by decide) (hts _ mbM_forget_2) (fun _ h9 => h9) rfl dM_forget_33 ?_
          refine lv_iload_n hx hb dM_forget_36 rfl (lv_at hl 2 rfl) ?_
          refine lv_iload hx hb dM_forget_37 (lv_at hl 0 rfl) ?_
          refine lv_iadd hx hb dM_forget_39 ?_
          refine lv_dup2_11 hx hb dM_forget_40 rfl rfl ?_
          refine va_iald hx hb hK hP 2 0 rfl rfl (pk_in 18 33 (by decide)) dM_forget_41 ?_
          refine lv_aload_n hx hb dM_forget_42 rfl (lv_at hl 3 rfl) ?_
          refine va_get (D := (dC, dI)) (ci := 2) (v := .ref zb) (C := RX2) (T := TX2) (N := 10) hx hb hts miM_forget_X2 hown hK hP 0 rfl rfl 2 (by decide) (hts _ mbM_forget_2) (fun _ h9 => h9) rfl dM_forget_43 ?_
          refine lv_iload_n hx hb dM_forget_46 rfl (lv_at hl 2 rfl) ?_
          refine lv_iload hx hb dM_forget_47 (lv_at hl 0 rfl) ?_
          refine lv_iadd hx hb dM_forget_49 ?_
          refine va_iald hx hb hK hP 2 0 rfl rfl (pk_in 18 33 (by decide)) dM_forget_50 ?_
          refine lv_iconst (v := 1) hx hb dM_forget_51 (by decide) ?_
          refine lv_iand hx hb dM_forget_52 ?_
          refine lv_isub hx hb dM_forget_53 ?_
          refine va_iast hx hb hK hP hD hS 2 0 rfl rfl (pk_in 18 33 (by decide)) dM_forget_54 (fun H locs hP hD hS => ?_)
          have hPn : va_P (dC, dI) vwCl [(k0, .inr (2, [.int 0, .ref yb, .ref zb, .int a1, .int a2, .int a3, .int a4, .int a5, .int a6, .int fo])), (yb, .inl (cI, 65536, .inl y)), (zb, .inl (cI, 33, .inl (s_mclr z 16 3)))] H := (mclr_s z 16 2 2 rfl) ▸ hP
          have hDn : va_D A [(k0, .inr (2, [.int 0, .ref yb, .ref zb, .int a1, .int a2, .int a3, .int a4, .int a5, .int a6, .int fo])), (yb, .inl (cI, 65536, .inl y)), (zb, .inl (cI, 33, .inl (s_mclr z 16 3)))] := (mclr_s z 16 2 2 rfl) ▸ hD
          have hP := hPn
          have hD := hDn
          refine lv_iinc (v := 3) (lv' := [(4, .int 3), (3, .int (s_M_matched z 16)), (2, .int 16), (0, .ref k0), (1, .int dd)]) hx hb dM_forget_55 hl (k := 0) rfl rfl (by decide) rfl (fun ls hl => ?_)
          refine lv_goto (tgt := 25) hx hb dM_forget_58 (by decide) ?_
          refine lv_iload hx hb dM_forget_25 (lv_at hl 0 rfl) ?_
          refine lv_bipush (v := 8) hx hb dM_forget_27 (by decide) ?_
          refine lv_icmp_ge (tgt := 61) hx hb dM_forget_29 (by decide) (fun c_18 => ?_) (fun c_18 => ?_)
          · exact absurd c_18 (by decide)
          · skip
            refine lv_aload_n hx hb dM_forget_32 rfl (lv_at hl 3 rfl) ?_
            refine va_get (D := (dC, dI)) (ci := 2) (v := .ref zb) (C := RX2) (T := TX2) (N := 10) hx hb hts miM_forget_X2 hown hK hP 0 rfl rfl 2 (by decide) (hts _ mbM_forget_2) (fun _ h9 => h9) rfl dM_forget_33 ?_
            refine lv_iload_n hx hb dM_forget_36 rfl (lv_at hl 2 rfl) ?_
            refine lv_iload hx hb dM_forget_37 (lv_at hl 0 rfl) ?_
            refine lv_iadd hx hb dM_forget_39 ?_
            refine lv_dup2_11 hx hb dM_forget_40 rfl rfl ?_
            refine va_iald hx hb hK hP 2 0 rfl rfl (pk_in 19 33 (by decide)) dM_forget_41 ?_
            refine lv_aload_n hx hb dM_forget_42 rfl (lv_at hl 3 rfl) ?_
            refine va_get (D := (dC, dI)) (ci := 2) (v := .ref zb) (C := RX2) (T := TX2) (N := 10) hx hb hts miM_forget_X2 hown hK hP 0 rfl rfl 2 (by decide) (hts _ mbM_forget_2) (fun _ h9 => h9) rfl dM_forget_43 ?_
            refine lv_iload_n hx hb dM_forget_46 rfl (lv_at hl 2 rfl) ?_
            refine lv_iload hx hb dM_forget_47 (lv_at hl 0 rfl) ?_
            refine lv_iadd hx hb dM_forget_49 ?_
            refine va_iald hx hb hK hP 2 0 rfl rfl (pk_in 19 33 (by decide)) dM_forget_50 ?_
            refine lv_iconst (v := 1) hx hb dM_forget_51 (by decide) ?_
            refine lv_iand hx hb dM_forget_52 ?_
            refine lv_isub hx hb dM_forget_53 ?_
            refine va_iast hx hb hK hP hD hS 2 0 rfl rfl (pk_in 19 33 (by decide)) dM_forget_54 (fun H locs hP hD hS => ?_)
            have hPn : va_P (dC, dI) vwCl [(k0, .inr (2, [.int 0, .ref yb, .ref zb, .int a1, .int a2, .int a3, .int a4, .int a5, .int a6, .int fo])), (yb, .inl (cI, 65536, .inl y)), (zb, .inl (cI, 33, .inl (s_mclr z 16 4)))] H := (mclr_s z 16 3 3 rfl) ▸ hP
            have hDn : va_D A [(k0, .inr (2, [.int 0, .ref yb, .ref zb, .int a1, .int a2, .int a3, .int a4, .int a5, .int a6, .int fo])), (yb, .inl (cI, 65536, .inl y)), (zb, .inl (cI, 33, .inl (s_mclr z 16 4)))] := (mclr_s z 16 3 3 rfl) ▸ hD
            have hP := hPn
            have hD := hDn
            refine lv_iinc (v := 4) (lv' := [(4, .int 4), (3, .int (s_M_matched z 16)), (2, .int 16), (0, .ref k0), (1, .int dd)]) hx hb dM_forget_55 hl (k := 0) rfl rfl (by decide) rfl (fun ls hl => ?_)
            refine lv_goto (tgt := 25) hx hb dM_forget_58 (by decide) ?_
            refine lv_iload hx hb dM_forget_25 (lv_at hl 0 rfl) ?_
            refine lv_bipush (v := 8) hx hb dM_forget_27 (by decide) ?_
            refine lv_icmp_ge (tgt := 61) hx hb dM_forget_29 (by decide) (fun c_19 => ?_) (fun c_19 => ?_)
            · exact absurd c_19 (by decide)
            · skip
              refine lv_aload_n hx hb dM_forget_32 rfl (lv_at hl 3 rfl) ?_
              refine va_get (D := (dC, dI)) (ci := 2) (v := .ref zb) (C := RX2) (T := TX2) (N := 10) hx hb hts miM_forget_X2 hown hK hP 0 rfl rfl 2 (by decide) (hts _ mbM_forget_2) (fun _ h9 => h9) rfl dM_forget_33 ?_
              refine lv_iload_n hx hb dM_forget_36 rfl (lv_at hl 2 rfl) ?_
              refine lv_iload hx hb dM_forget_37 (lv_at hl 0 rfl) ?_
              refine lv_iadd hx hb dM_forget_39 ?_
              refine lv_dup2_11 hx hb dM_forget_40 rfl rfl ?_
              refine va_iald hx hb hK hP 2 0 rfl rfl (pk_in 20 33 (by decide)) dM_forget_41 ?_
              refine lv_aload_n hx hb dM_forget_42 rfl (lv_at hl 3 rfl) ?_
              refine va_get (D := (dC, dI)) (ci := 2) (v := .ref zb) (C := RX2) (T := TX2) (N := 10) hx hb hts miM_forget_X2 hown hK hP 0 rfl rfl 2 (by decide) (hts _ mbM_forget_2) (fun _ h9 => h9) rfl dM_forget_43 ?_
              refine lv_iload_n hx hb dM_forget_46 rfl (lv_at hl 2 rfl) ?_
              refine lv_iload hx hb dM_forget_47 (lv_at hl 0 rfl) ?_
              refine lv_iadd hx hb dM_forget_49 ?_
              refine va_iald hx hb hK hP 2 0 rfl rfl (pk_in 20 33 (by decide)) dM_forget_50 ?_
              refine lv_iconst (v := 1) hx hb dM_forget_51 (by decide) ?_
              refine lv_iand hx hb dM_forget_52 ?_
              refine lv_isub hx hb dM_forget_53 ?_
              refine va_iast hx hb hK hP hD hS 2 0 rfl rfl (pk_in 20 33 (by decide)) dM_forget_54 (fun H locs hP hD hS => ?_)
              have hPn : va_P (dC, dI) vwCl [(k0, .inr (2, [.int 0, .ref yb, .ref zb, .int a1, .int a2, .int a3, .int a4, .int a5, .int a6, .int fo])), (yb, .inl (cI, 65536, .inl y)), (zb, .inl (cI, 33, .inl (s_mclr z 16 5)))] H := (mclr_s z 16 4 4 rfl) ▸ hP
              have hDn : va_D A [(k0, .inr (2, [.int 0, .ref yb, .ref zb, .int a1, .int a2, .int a3, .int a4, .int a5, .int a6, .int fo])), (yb, .inl (cI, 65536, .inl y)), (zb, .inl (cI, 33, .inl (s_mclr z 16 5)))] := (mclr_s z 16 4 4 rfl) ▸ hD
              have hP := hPn
              have hD := hDn
              refine lv_iinc (v := 5) (lv' := [(4, .int 5), (3, .int (s_M_matched z 16)), (2, .int 16), (0, .ref k0), (1, .int dd)]) hx hb dM_forget_55 hl (k := 0) rfl rfl (by decide) rfl (fun ls hl => ?_)
              refine lv_goto (tgt := 25) hx hb dM_forget_58 (by decide) ?_
              refine lv_iload hx hb dM_forget_25 (lv_at hl 0 rfl) ?_
              refine lv_bipush (v := 8) hx hb dM_forget_27 (by decide) ?_
              refine lv_icmp_ge (tgt := 61) hx hb dM_forget_29 (by decide) (fun c_20 => ?_) (fun c_20 => ?_)
              · exact absurd c_20 (by decide)
              · skip
                refine lv_aload_n hx hb dM_forget_32 rfl (lv_at hl 3 rfl) ?_
                refine va_get (D := (dC, dI)) (ci := 2) (v := .ref zb) (C := RX2) (T := TX2) (N := 10) hx hb hts miM_forget_X2 hown hK hP 0 rfl rfl 2 (by decide) (hts _ mbM_forget_2) (fun _ h9 => h9) rfl dM_forget_33 ?_
                refine lv_iload_n hx hb dM_forget_36 rfl (lv_at hl 2 rfl) ?_
                refine lv_iload hx hb dM_forget_37 (lv_at hl 0 rfl) ?_
                refine lv_iadd hx hb dM_forget_39 ?_
                refine lv_dup2_11 hx hb dM_forget_40 rfl rfl ?_
                refine va_iald hx hb hK hP 2 0 rfl rfl (pk_in 21 33 (by decide)) dM_forget_41 ?_
                refine lv_aload_n hx hb dM_forget_42 rfl (lv_at hl 3 rfl) ?_
                refine va_get (D := (dC, dI)) (ci := 2) (v := .ref zb) (C := RX2) (T := TX2) (N := 10) hx hb hts miM_forget_X2 hown hK hP 0 rfl rfl 2 (by decide) (hts _ mbM_forget_2) (fun _ h9 => h9) rfl dM_forget_43 ?_
                refine lv_iload_n hx hb dM_forget_46 rfl (lv_at hl 2 rfl) ?_
                refine lv_iload hx hb dM_forget_47 (lv_at hl 0 rfl) ?_
                refine lv_iadd hx hb dM_forget_49 ?_
                refine va_iald hx hb hK hP 2 0 rfl rfl (pk_in 21 33 (by decide)) dM_forget_50 ?_
                refine lv_iconst (v := 1) hx hb dM_forget_51 (by decide) ?_
                refine lv_iand hx hb dM_forget_52 ?_
                refine lv_isub hx hb dM_forget_53 ?_
                refine va_iast hx hb hK hP hD hS 2 0 rfl rfl (pk_in 21 33 (by decide)) dM_forget_54 (fun H locs hP hD hS => ?_)
                have hPn : va_P (dC, dI) vwCl [(k0, .inr (2, [.int 0, .ref yb, .ref zb, .int a1, .int a2, .int a3, .int a4, .int a5, .int a6, .int fo])), (yb, .inl (cI, 65536, .inl y)), (zb, .inl (cI, 33, .inl (s_mclr z 16 6)))] H := (mclr_s z 16 5 5 rfl) ▸ hP
                have hDn : va_D A [(k0, .inr (2, [.int 0, .ref yb, .ref zb, .int a1, .int a2, .int a3, .int a4, .int a5, .int a6, .int fo])), (yb, .inl (cI, 65536, .inl y)), (zb, .inl (cI, 33, .inl (s_mclr z 16 6)))] := (mclr_s z 16 5 5 rfl) ▸ hD
                have hP := hPn
                have hD := hDn
                refine lv_iinc (v := 6) (lv' := [(4, .int 6), (3, .int (s_M_matched z 16)), (2, .int 16), (0, .ref k0), (1, .int dd)]) hx hb dM_forget_55 hl (k := 0) rfl rfl (by decide) rfl (fun ls hl => ?_)
                refine lv_goto (tgt := 25) hx hb dM_forget_58 (by decide) ?_
                refine lv_iload hx hb dM_forget_25 (lv_at hl 0 rfl) ?_
                refine lv_bipush (v := 8) hx hb dM_forget_27 (by decide) ?_
                refine lv_icmp_ge (tgt := 61) hx hb dM_forget_29 (by decide) (fun c_21 => ?_) (fun c_21 => ?_)
                · exact absurd c_21 (by decide)
                · skip
                  refine lv_aload_n hx hb dM_forget_32 rfl (lv_at hl 3 rfl) ?_
                  refine va_get (D := (dC, dI)) (ci := 2) (v := .ref zb) (C := RX2) (T := TX2) (N := 10) hx hb hts miM_forget_X2 hown hK hP 0 rfl rfl 2 (by decide) (hts _ mbM_forget_2) (fun _ h9 => h9) rfl dM_forget_33 ?_
                  refine lv_iload_n hx hb dM_forget_36 rfl (lv_at hl 2 rfl) ?_
                  refine lv_iload hx hb dM_forget_37 (lv_at hl 0 rfl) ?_
                  refine lv_iadd hx hb dM_forget_39 ?_
                  refine lv_dup2_11 hx hb dM_forget_40 rfl rfl ?_
                  refine va_iald hx hb hK hP 2 0 rfl rfl (pk_in 22 33 (by decide)) dM_forget_41 ?_
                  refine lv_aload_n hx hb dM_forget_42 rfl (lv_at hl 3 rfl) ?_
                  refine va_get (D := (dC, dI)) (ci := 2) (v := .ref zb) (C := RX2) (T := TX2) (N := 10) hx hb hts miM_forget_X2 hown hK hP 0 rfl rfl 2 (by decide) (hts _ mbM_forget_2) (fun _ h9 => h9) rfl dM_forget_43 ?_
                  refine lv_iload_n hx hb dM_forget_46 rfl (lv_at hl 2 rfl) ?_
                  refine lv_iload hx hb dM_forget_47 (lv_at hl 0 rfl) ?_
                  refine lv_iadd hx hb dM_forget_49 ?_
                  refine va_iald hx hb hK hP 2 0 rfl rfl (pk_in 22 33 (by decide)) dM_forget_50 ?_
                  refine lv_iconst (v := 1) hx hb dM_forget_51 (by decide) ?_
                  refine lv_iand hx hb dM_forget_52 ?_
                  refine lv_isub hx hb dM_forget_53 ?_
                  refine va_iast hx hb hK hP hD hS 2 0 rfl rfl (pk_in 22 33 (by decide)) dM_forget_54 (fun H locs hP hD hS => ?_)
                  have hPn : va_P (dC, dI) vwCl [(k0, .inr (2, [.int 0, .ref yb, .ref zb, .int a1, .int a2, .int a3, .int a4, .int a5, .int a6, .int fo])), (yb, .inl (cI, 65536, .inl y)), (zb, .inl (cI, 33, .inl (s_mclr z 16 7)))] H := (mclr_s z 16 6 6 rfl) ▸ hP
                  have hDn : va_D A [(k0, .inr (2, [.int 0, .ref yb, .ref zb, .int a1, .int a2, .int a3, .int a4, .int a5, .int a6, .int fo])), (yb, .inl (cI, 65536, .inl y)), (zb, .inl (cI, 33, .inl (s_mclr z 16 7)))] := (mclr_s z 16 6 6 rfl) ▸ hD
                  have hP := hPn
                  have hD := hDn
                  refine lv_iinc (v := 7) (lv' := [(4, .int 7), (3, .int (s_M_matched z 16)), (2, .int 16), (0, .ref k0), (1, .int dd)]) hx hb dM_forget_55 hl (k := 0) rfl rfl (by decide) rfl (fun ls hl => ?_)
                  refine lv_goto (tgt := 25) hx hb dM_forget_58 (by decide) ?_
                  refine lv_iload hx hb dM_forget_25 (lv_at hl 0 rfl) ?_
                  refine lv_bipush (v := 8) hx hb dM_forget_27 (by decide) ?_
                  refine lv_icmp_ge (tgt := 61) hx hb dM_forget_29 (by decide) (fun c_22 => ?_) (fun c_22 => ?_)
                  · exact absurd c_22 (by decide)
                  · skip
                    refine lv_aload_n hx hb dM_forget_32 rfl (lv_at hl 3 rfl) ?_
                    refine va_get (D := (dC, dI)) (ci := 2) (v := .ref zb) (C := RX2) (T := TX2) (N := 10) hx hb hts miM_forget_X2 hown hK hP 0 rfl rfl 2 (by decide) (hts _ mbM_forget_2) (fun _ h9 => h9) rfl dM_forget_33 ?_
                    refine lv_iload_n hx hb dM_forget_36 rfl (lv_at hl 2 rfl) ?_
                    refine lv_iload hx hb dM_forget_37 (lv_at hl 0 rfl) ?_
                    refine lv_iadd hx hb dM_forget_39 ?_
                    refine lv_dup2_11 hx hb dM_forget_40 rfl rfl ?_
                    refine va_iald hx hb hK hP 2 0 rfl rfl (pk_in 23 33 (by decide)) dM_forget_41 ?_
                    refine lv_aload_n hx hb dM_forget_42 rfl (lv_at hl 3 rfl) ?_
                    refine va_get (D := (dC, dI)) (ci := 2) (v := .ref zb) (C := RX2) (T := TX2) (N := 10) hx hb hts miM_forget_X2 hown hK hP 0 rfl rfl 2 (by decide) (hts _ mbM_forget_2) (fun _ h9 => h9) rfl dM_forget_43 ?_
                    refine lv_iload_n hx hb dM_forget_46 rfl (lv_at hl 2 rfl) ?_
                    refine lv_iload hx hb dM_forget_47 (lv_at hl 0 rfl) ?_
                    refine lv_iadd hx hb dM_forget_49 ?_
                    refine va_iald hx hb hK hP 2 0 rfl rfl (pk_in 23 33 (by decide)) dM_forget_50 ?_
                    refine lv_iconst (v := 1) hx hb dM_forget_51 (by decide) ?_
                    refine lv_iand hx hb dM_forget_52 ?_
                    refine lv_isub hx hb dM_forget_53 ?_
                    refine va_iast hx hb hK hP hD hS 2 0 rfl rfl (pk_in 23 33 (by decide)) dM_forget_54 (fun H locs hP hD hS => ?_)
                    have hPn : va_P (dC, dI) vwCl [(k0, .inr (2, [.int 0, .ref yb, .ref zb, .int a1, .int a2, .int a3, .int a4, .int a5, .int a6, .int fo])), (yb, .inl (cI, 65536, .inl y)), (zb, .inl (cI, 33, .inl (s_mclr z 16 8)))] H := (mclr_s z 16 7 7 rfl) ▸ hP
                    have hDn : va_D A [(k0, .inr (2, [.int 0, .ref yb, .ref zb, .int a1, .int a2, .int a3, .int a4, .int a5, .int a6, .int fo])), (yb, .inl (cI, 65536, .inl y)), (zb, .inl (cI, 33, .inl (s_mclr z 16 8)))] := (mclr_s z 16 7 7 rfl) ▸ hD
                    have hP := hPn
                    have hD := hDn
                    refine lv_iinc (v := 8) (lv' := [(4, .int 8), (3, .int (s_M_matched z 16)), (2, .int 16), (0, .ref k0), (1, .int dd)]) hx hb dM_forget_55 hl (k := 0) rfl rfl (by decide) rfl (fun ls hl => ?_)
                    refine lv_goto (tgt := 25) hx hb dM_forget_58 (by decide) ?_
                    refine lv_iload hx hb dM_forget_25 (lv_at hl 0 rfl) ?_
                    refine lv_bipush (v := 8) hx hb dM_forget_27 (by decide) ?_
                    refine lv_icmp_ge (tgt := 61) hx hb dM_forget_29 (by decide) (fun c_23 => ?_) (fun c_23 => ?_)
                    · skip
                      refine lv_iload_n hx hb dM_forget_61 rfl (lv_at hl 1 rfl) ?_
                      exact W.iret (v := s_M_matched z 16) hx hb hr (fun t ht hW => ⟨⟨s_M_matched z 16, (0, s_mclr z 16 8), rfl, by simp only [s_M_forget, if_neg c_1], by rw [ht]; exact hP, va_K.moved hW.alike hK, hD⟩, hS.F ht⟩) hS.2.2 dM_forget_62
                    · exact absurd c_23 (by decide)
set_option maxRecDepth 100000 in
theorem miM_look_X2 : ∀ w ∈ u_ws RX2 TX2 10, w ∈ wsM_look := by decide +kernel
set_option maxRecDepth 100000 in
theorem mbM_look_1 : (.fieldLink RX2 17 "SoftMapsModel" "thrown" "I" : Cond) ∈ wsM_look := by decide +kernel
set_option maxRecDepth 100000 in
theorem mbM_look_2 : (.fieldLink RX2 53 "SoftMapsModel" "faults" "I" : Cond) ∈ wsM_look := by decide +kernel
set_option maxRecDepth 100000 in
theorem mbM_look_3 : (.fieldLink RX2 56 "SoftMapsModel" "fault" "I" : Cond) ∈ wsM_look := by decide +kernel
set_option maxRecDepth 100000 in
theorem mbM_look_4 : (.fieldLink RX2 59 "SoftMapsModel" "address" "I" : Cond) ∈ wsM_look := by decide +kernel
set_option maxRecDepth 100000 in
theorem mbM_look_5 : (.fieldLink RX2 66 "SoftMapsModel" "codes" "I" : Cond) ∈ wsM_look := by decide +kernel
set_option maxRecDepth 100000 in
theorem mbM_look_6 : (.fieldLink RX2 73 "SoftMapsModel" "loads" "I" : Cond) ∈ wsM_look := by decide +kernel
set_option maxRecDepth 100000 in
theorem mbM_look_7 : (.fieldLink RX2 76 "SoftMapsModel" "stores" "I" : Cond) ∈ wsM_look := by decide +kernel
def s_M_look (z : Nat → Int32) (a1 : Int32) (a2 : Int32) (a3 : Int32) (a4 : Int32) (a5 : Int32) (a6 : Int32) (k : Int32) : Int32 × Int32 :=
  if k = 0 then
    (a1, 0)
  else
    if k = 1 then
      (a2, 0)
    else
      if k = 2 then
        (a3, 0)
      else
        if k = 3 then
          (a4, 0)
        else
          if k = 4 then
            (a5, 0)
          else
            if k = 5 then
              (a6, 0)
            else
              if k = 6 then
                (s_M_matched z 0, 0)
              else
                if k = 7 then
                  (s_M_matched z 16, 0)
                else
                  ((-1), 0)
set_option maxHeartbeats 4000000 in
set_option maxRecDepth 100000 in
theorem c_M_look (l : Launch) (dC : Nat → ClassId) (dI : Nat → Nat → Nat) (sz : Nat) (k0 yb zb : Nat) (cI : ClassId) (y z : Nat → Int32) (th a1 a2 a3 a4 a5 a6 fo : Int32) (k : Int32)  : Met l yM_look wsM_look ({ frames := 1, cells := 0, slots := 0, locals := 23 }) (va_Pc [.ref k0, .int k] (fun U => U.heap.size = sz ∧ va_P (dC, dI) vwCl [(k0, .inr (2, [.int th, .ref yb, .ref zb, .int a1, .int a2, .int a3, .int a4, .int a5, .int a6, .int fo])), (yb, .inl (cI, 65536, .inl y)), (zb, .inl (cI, 33, .inl z))] U.heap ∧ va_K (dC, dI) vwCl [(cI, .int)] U ∧ va_D (fun _ => True) [(k0, .inr (2, [.int th, .ref yb, .ref zb, .int a1, .int a2, .int a3, .int a4, .int a5, .int a6, .int fo])), (yb, .inl (cI, 65536, .inl y)), (zb, .inl (cI, 33, .inl z))])) (va_Qi (fun (a_ : Int32) (u : Int32) => (a_, u) = s_M_look z a1 a2 a3 a4 a5 a6 k) (fun (u : Int32) (t : State) => va_P (dC, dI) vwCl [(k0, .inr (2, [.int u, .ref yb, .ref zb, .int a1, .int a2, .int a3, .int a4, .int a5, .int a6, .int fo])), (yb, .inl (cI, 65536, .inl y)), (zb, .inl (cI, 33, .inl z))] t.heap ∧ va_K (dC, dI) vwCl [(cI, .int)] t ∧ va_D (va_A [(k0, .inr (2, [.int th, .ref yb, .ref zb, .int a1, .int a2, .int a3, .int a4, .int a5, .int a6, .int fo])), (yb, .inl (cI, 65536, .inl y)), (zb, .inl (cI, 33, .inl z))] sz) [(k0, .inr (2, [.int u, .ref yb, .ref zb, .int a1, .int a2, .int a3, .int a4, .int a5, .int a6, .int fo])), (yb, .inl (cI, 65536, .inl y)), (zb, .inl (cI, 33, .inl z))]) (va_A [(k0, .inr (2, [.int th, .ref yb, .ref zb, .int a1, .int a2, .int a3, .int a4, .int a5, .int a6, .int fo])), (yb, .inl (cI, 65536, .inl y)), (zb, .inl (cI, 33, .inl z))] sz)) 0 0 (va_A [(k0, .inr (2, [.int th, .ref yb, .ref zb, .int a1, .int a2, .int a3, .int a4, .int a5, .int a6, .int fo])), (yb, .inl (cI, 65536, .inl y)), (zb, .inl (cI, 33, .inl z))] sz) := by
  refine Met.ofW (cc := cM_look) (maxL := 2) (ret := (some .int)) (by decide) rfl ?_
  intro p e s m args below meth c s₁ B hml hv
  obtain ⟨rfl, hsz, hP, hK, hD0⟩ := hv
  have hx := B.exec
  have hb := B.bytes
  have hr := B.returns
  have hts := atoms_spec (ws := wsM_look) B.pre
  have hown : s.vm.findClass RX2 = some m.cls := findClass_of_methodNamed B.named
  have hlocks := B.notSynchronized
  subst hsz
  have hD := hD0.self (sz := s.heap.size)
  generalize hAe : va_A [(k0, .inr (2, [.int th, .ref yb, .ref zb, .int a1, .int a2, .int a3, .int a4, .int a5, .int a6, .int fo])), (yb, .inl (cI, 65536, .inl y)), (zb, .inl (cI, 33, .inl z))] s.heap.size = A at hD ⊢
  have hA : ∀ q : Nat, s.heap.size ≤ q → A q := fun q h => by rw [← hAe]; exact Or.inr h
  have hS : va_S A s.heap s.heap [] := va_S.rf
  have hP : va_P (dC, dI) vwCl [(k0, .inr (2, [.int th, .ref yb, .ref zb, .int a1, .int a2, .int a3, .int a4, .int a5, .int a6, .int fo])), (yb, .inl (cI, 65536, .inl y)), (zb, .inl (cI, 33, .inl z))] s.heap := hP
  have hl := lv_entry ([.ref k0, .int k]) (n := 2) (Nat.le_of_ble_eq_true rfl)
  rw [lg_entry_eq]
  generalize (lg_sl ([.ref k0, .int k]) ++ List.replicate (2 - (lg_sl ([.ref k0, .int k])).length) Slot.unset).toArray = ls at hl ⊢
  have hl : lv_has ls 2 [(0, .ref k0), (1, .int k)] := hl
  refine lv_aload_n hx hb dM_look_0 rfl (lv_at hl 0 rfl) ?_
  refine lv_iconst (v := 0) hx hb dM_look_1 (by decide) ?_
  refine va_put (D := (dC, dI)) (ci := 2) (v := .int 0) (ty := tyX2 0) (C := RX2) (T := TX2) (N := 10) hx hb hts miM_look_X2 tyX2 tyX2_ok nmX2 hown hK hP hD hS 0 rfl rfl 0 (by decide) (hts _ mbM_look_1) (fun _ h9 => h9) rfl (by decide +kernel) rfl rfl (Nat.le_of_ble_eq_true rfl) dM_look_2 (fun H locs hP hD hS => ?_)
  have hP : va_P (dC, dI) vwCl [(k0, .inr (2, [.int 0, .ref yb, .ref zb, .int a1, .int a2, .int a3, .int a4, .int a5, .int a6, .int fo])), (yb, .inl (cI, 65536, .inl y)), (zb, .inl (cI, 33, .inl z))] H := hP
  have hD : va_D A [(k0, .inr (2, [.int 0, .ref yb, .ref zb, .int a1, .int a2, .int a3, .int a4, .int a5, .int a6, .int fo])), (yb, .inl (cI, 65536, .inl y)), (zb, .inl (cI, 33, .inl z))] := hD
  refine lv_iload_n hx hb dM_look_5 rfl (lv_at hl 1 rfl) ?_
  by_cases hs_1 : k = 0
  · refine lv_tableIn (tgt := 52) hx hb dM_look_6 (by rw [hs_1]; decide) (by rw [hs_1]; decide) (off := 46) (by rw [hs_1]; decide) (by decide) ?_
    refine lv_aload_n hx hb dM_look_52 rfl (lv_at hl 0 rfl) ?_
    refine va_get (D := (dC, dI)) (ci := 2) (v := .int a1) (C := RX2) (T := TX2) (N := 10) hx hb hts miM_look_X2 hown hK hP 0 rfl rfl 3 (by decide) (hts _ mbM_look_2) (fun _ h9 => h9) rfl dM_look_53 ?_
    exact W.iret (v := a1) hx hb hr (fun t ht hW => ⟨⟨a1, 0, rfl, by simp only [s_M_look, if_pos hs_1], by rw [ht]; exact hP, va_K.moved hW.alike hK, hD⟩, hS.F ht⟩) hS.2.2 dM_look_56
  · skip
    by_cases hs_2 : k = 1
    · refine lv_tableIn (tgt := 57) hx hb dM_look_6 (by rw [hs_2]; decide) (by rw [hs_2]; decide) (off := 51) (by rw [hs_2]; decide) (by decide) ?_
      refine lv_aload_n hx hb dM_look_57 rfl (lv_at hl 0 rfl) ?_
      refine va_get (D := (dC, dI)) (ci := 2) (v := .int a2) (C := RX2) (T := TX2) (N := 10) hx hb hts miM_look_X2 hown hK hP 0 rfl rfl 4 (by decide) (hts _ mbM_look_3) (fun _ h9 => h9) rfl dM_look_58 ?_
      exact W.iret (v := a2) hx hb hr (fun t ht hW => ⟨⟨a2, 0, rfl, by simp only [s_M_look, if_neg hs_1, if_pos hs_2], by rw [ht]; exact hP, va_K.moved hW.alike hK, hD⟩, hS.F ht⟩) hS.2.2 dM_look_61
    · skip
      by_cases hs_3 : k = 2
      · refine lv_tableIn (tgt := 62) hx hb dM_look_6 (by rw [hs_3]; decide) (by rw [hs_3]; decide) (off := 56) (by rw [hs_3]; decide) (by decide) ?_
        refine lv_aload_n hx hb dM_look_62 rfl (lv_at hl 0 rfl) ?_
        refine va_get (D := (dC, dI)) (ci := 2) (v := .int a3) (C := RX2) (T := TX2) (N := 10) hx hb hts miM_look_X2 hown hK hP 0 rfl rfl 5 (by decide) (hts _ mbM_look_4) (fun _ h9 => h9) rfl dM_look_63 ?_
        exact W.iret (v := a3) hx hb hr (fun t ht hW => ⟨⟨a3, 0, rfl, by simp only [s_M_look, if_neg hs_1, if_neg hs_2, if_pos hs_3], by rw [ht]; exact hP, va_K.moved hW.alike hK, hD⟩, hS.F ht⟩) hS.2.2 dM_look_66
      · skip
        by_cases hs_4 : k = 3
        · refine lv_tableIn (tgt := 67) hx hb dM_look_6 (by rw [hs_4]; decide) (by rw [hs_4]; decide) (off := 61) (by rw [hs_4]; decide) (by decide) ?_
          refine lv_aload_n hx hb dM_look_67 rfl (lv_at hl 0 rfl) ?_
          refine va_get (D := (dC, dI)) (ci := 2) (v := .int a4) (C := RX2) (T := TX2) (N := 10) hx hb hts miM_look_X2 hown hK hP 0 rfl rfl 6 (by decide) (hts _ mbM_look_5) (fun _ h9 => h9) rfl dM_look_68 ?_
          exact W.iret (v := a4) hx hb hr (fun t ht hW => ⟨⟨a4, 0, rfl, by simp only [s_M_look, if_neg hs_1, if_neg hs_2, if_neg hs_3, if_pos hs_4], by rw [ht]; exact hP, va_K.moved hW.alike hK, hD⟩, hS.F ht⟩) hS.2.2 dM_look_71
        · skip
          by_cases hs_5 : k = 4
          · refine lv_tableIn (tgt := 72) hx hb dM_look_6 (by rw [hs_5]; decide) (by rw [hs_5]; decide) (off := 66) (by rw [hs_5]; decide) (by decide) ?_
            refine lv_aload_n hx hb dM_look_72 rfl (lv_at hl 0 rfl) ?_
            refine va_get (D := (dC, dI)) (ci := 2) (v := .int a5) (C := RX2) (T := TX2) (N := 10) hx hb hts miM_look_X2 hown hK hP 0 rfl rfl 7 (by decide) (hts _ mbM_look_6) (fun _ h9 => h9) rfl dM_look_73 ?_
            exact W.iret (v := a5) hx hb hr (fun t ht hW => ⟨⟨a5, 0, rfl, by simp only [s_M_look, if_neg hs_1, if_neg hs_2, if_neg hs_3, if_neg hs_4, if_pos hs_5], by rw [ht]; exact hP, va_K.moved hW.alike hK, hD⟩, hS.F ht⟩) hS.2.2 dM_look_76
          · skip
            by_cases hs_6 : k = 5
            · refine lv_tableIn (tgt := 77) hx hb dM_look_6 (by rw [hs_6]; decide) (by rw [hs_6]; decide) (off := 71) (by rw [hs_6]; decide) (by decide) ?_
              refine lv_aload_n hx hb dM_look_77 rfl (lv_at hl 0 rfl) ?_
              refine va_get (D := (dC, dI)) (ci := 2) (v := .int a6) (C := RX2) (T := TX2) (N := 10) hx hb hts miM_look_X2 hown hK hP 0 rfl rfl 8 (by decide) (hts _ mbM_look_7) (fun _ h9 => h9) rfl dM_look_78 ?_
              exact W.iret (v := a6) hx hb hr (fun t ht hW => ⟨⟨a6, 0, rfl, by simp only [s_M_look, if_neg hs_1, if_neg hs_2, if_neg hs_3, if_neg hs_4, if_neg hs_5, if_pos hs_6], by rw [ht]; exact hP, va_K.moved hW.alike hK, hD⟩, hS.F ht⟩) hS.2.2 dM_look_81
            · skip
              by_cases hs_7 : k = 6
              · refine lv_tableIn (tgt := 82) hx hb dM_look_6 (by rw [hs_7]; decide) (by rw [hs_7]; decide) (off := 76) (by rw [hs_7]; decide) (by decide) ?_
                refine lv_aload_n hx hb dM_look_82 rfl (lv_at hl 0 rfl) ?_
                refine lv_iconst (v := 0) hx hb dM_look_83 (by decide) ?_
                have hPc := hP.sub (ws' := [(k0, .inr (2, [.int 0, .ref yb, .ref zb, .int a1, .int a2, .int a3, .int a4, .int a5, .int a6, .int fo])), (yb, .inl (cI, 65536, .inl y)), (zb, .inl (cI, 33, .inl z))]) [0, 1, 2] rfl
                have hKc := hK.sub (tys' := [(cI, .int)]) [0] rfl
                refine vp_callSi (va_Run.run (va_runV (As := [.int 0]) (rest := []) ⟨hx, hb, hml, hown, hts⟩ (c_M_matched l dC dI k0 yb zb cI y z 0 a1 a2 a3 a4 a5 a6 fo 0 (Or.inl rfl)) (cwV 1 hts gM_look_M_matched rfl rfl rfl (by decide +kernel) ⟨Nat.le_of_ble_eq_true rfl, Nat.le_of_ble_eq_true rfl⟩) ⟨fun a U g mk q => by obtain ⟨q0, qP, qK⟩ := q; exact ⟨q0, qP, va_K.moved (u := U) (U := U.calling g mk a) (Vm.Alike.refl U.vm) qK⟩, va_recv hKc hPc (ci := 2) (q0 := 0) rfl rfl, fun U hU hW => ⟨rfl, by rw [hU]; exact hPc, va_K.moved hW.alike hKc⟩⟩ rfl rfl hl.1 rfl (lv_room (Nat.le_of_ble_eq_true rfl)) dM_look_84 ⟨Nat.le_of_ble_eq_true rfl, Nat.le_of_ble_eq_true rfl⟩)) (fun r_8 hw_9 => ?_)
                subst hw_9
                exact W.iret (v := s_M_matched z 0) hx hb hr (fun t ht hW => ⟨⟨s_M_matched z 0, 0, rfl, by simp only [s_M_look, if_neg hs_1, if_neg hs_2, if_neg hs_3, if_neg hs_4, if_neg hs_5, if_neg hs_6, if_pos hs_7], by rw [ht]; exact hP, va_K.moved hW.alike hK, hD⟩, hS.F ht⟩) hS.2.2 dM_look_87
              · skip
                by_cases hs_10 : k = 7
                · refine lv_tableIn (tgt := 88) hx hb dM_look_6 (by rw [hs_10]; decide) (by rw [hs_10]; decide) (off := 82) (by rw [hs_10]; decide) (by decide) ?_
                  refine lv_aload_n hx hb dM_look_88 rfl (lv_at hl 0 rfl) ?_
                  refine lv_bipush (v := 16) hx hb dM_look_89 (by decide) ?_
                  have hPc := hP.sub (ws' := [(k0, .inr (2, [.int 0, .ref yb, .ref zb, .int a1, .int a2, .int a3, .int a4, .int a5, .int a6, .int fo])), (yb, .inl (cI, 65536, .inl y)), (zb, .inl (cI, 33, .inl z))]) [0, 1, 2] rfl
                  have hKc := hK.sub (tys' := [(cI, .int)]) [0] rfl
                  refine vp_callSi (va_Run.run (va_runV (As := [.int 16]) (rest := []) ⟨hx, hb, hml, hown, hts⟩ (c_M_matched l dC dI k0 yb zb cI y z 0 a1 a2 a3 a4 a5 a6 fo 16 (Or.inr rfl)) (cwV 1 hts gM_look_M_matched rfl rfl rfl (by decide +kernel) ⟨Nat.le_of_ble_eq_true rfl, Nat.le_of_ble_eq_true rfl⟩) ⟨fun a U g mk q => by obtain ⟨q0, qP, qK⟩ := q; exact ⟨q0, qP, va_K.moved (u := U) (U := U.calling g mk a) (Vm.Alike.refl U.vm) qK⟩, va_recv hKc hPc (ci := 2) (q0 := 0) rfl rfl, fun U hU hW => ⟨rfl, by rw [hU]; exact hPc, va_K.moved hW.alike hKc⟩⟩ rfl rfl hl.1 rfl (lv_room (Nat.le_of_ble_eq_true rfl)) dM_look_91 ⟨Nat.le_of_ble_eq_true rfl, Nat.le_of_ble_eq_true rfl⟩)) (fun r_11 hw_12 => ?_)
                  subst hw_12
                  exact W.iret (v := s_M_matched z 16) hx hb hr (fun t ht hW => ⟨⟨s_M_matched z 16, 0, rfl, by simp only [s_M_look, if_neg hs_1, if_neg hs_2, if_neg hs_3, if_neg hs_4, if_neg hs_5, if_neg hs_6, if_neg hs_7, if_pos hs_10], by rw [ht]; exact hP, va_K.moved hW.alike hK, hD⟩, hS.F ht⟩) hS.2.2 dM_look_94
                · skip
                  refine lv_tableOut (tgt := 95) hx hb dM_look_6 (by have := lv_neT hs_1 (a := 0) (by decide); have := lv_neT hs_2 (a := 1) (by decide); have := lv_neT hs_3 (a := 2) (by decide); have := lv_neT hs_4 (a := 3) (by decide); have := lv_neT hs_5 (a := 4) (by decide); have := lv_neT hs_6 (a := 5) (by decide); have := lv_neT hs_7 (a := 6) (by decide); have := lv_neT hs_10 (a := 7) (by decide); omega) (by decide) ?_
                  refine lv_iconst (v := (-1)) hx hb dM_look_95 (by decide) ?_
                  exact W.iret (v := (-1)) hx hb hr (fun t ht hW => ⟨⟨(-1), 0, rfl, by simp only [s_M_look, if_neg hs_1, if_neg hs_2, if_neg hs_3, if_neg hs_4, if_neg hs_5, if_neg hs_6, if_neg hs_7, if_neg hs_10], by rw [ht]; exact hP, va_K.moved hW.alike hK, hD⟩, hS.F ht⟩) hS.2.2 dM_look_96
