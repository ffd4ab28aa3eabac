/-- a place with three behind it in the memory -/
def pin4 (p : Int32) : Prop := ∃ n : Nat, n + 4 ≤ 65536 ∧ p = nI n
theorem in4 {p : Int32} (h : pin4 p) (k : Nat) (hk : k < 4) : vp_in (p + nI k) 65536 := by
  obtain ⟨n, hn, rfl⟩ := h
  exact pk_in (n + k) 65536 (by omega) (nI_add n k)
theorem in4_0 {p : Int32} (h : pin4 p) : vp_in (p + 0) 65536 := in4 h 0 (by decide)
theorem in4_1 {p : Int32} (h : pin4 p) : vp_in (p + 1) 65536 := in4 h 1 (by decide)
theorem in4_2 {p : Int32} (h : pin4 p) : vp_in (p + 2) 65536 := in4 h 2 (by decide)
theorem in4_3 {p : Int32} (h : pin4 p) : vp_in (p + 3) 65536 := in4 h 3 (by decide)
theorem pin4_of {p : Int32} {n : Nat} (hn : n < 65536) (h4 : n % 4 = 0) (e : p = nI n) : pin4 p := ⟨n, by omega, e⟩
set_option maxRecDepth 100000 in
theorem mbM_isWordPlace_0 : (.constant RX2 7 (65536) : Cond) ∈ wsM_isWordPlace := by decide +kernel
def s_M_isWordPlace (pp : Int32) : Int32 :=
  if pp < 0 then
    0
  else
    if 65536 ≤ pp then
      0
    else
      if pp - pp / 4 * 4 = 0 then
        1
      else
        0
set_option maxHeartbeats 4000000 in
set_option maxRecDepth 100000 in
theorem c_M_isWordPlace (l : Launch) (pp : Int32)  : Met l yM_isWordPlace wsM_isWordPlace ({ frames := 0, cells := 0, slots := 0, locals := 0 }) (va_Pc [.int pp] (fun U => True)) (vp_Si (fun x_ => x_ = s_M_isWordPlace pp)) 0 0 (fun _ => False) := by
  refine Met.ofW (cc := cM_isWordPlace) (maxL := 1) (ret := (some .boolean)) (by decide) rfl ?_
  intro p e s m args below meth c s₁ B hml hv
  obtain ⟨rfl, -⟩ := hv
  have hx := B.exec
  have hb := B.bytes
  have hr := B.returns
  have hts := atoms_spec (ws := wsM_isWordPlace) B.pre
  have hown : s.vm.findClass RX2 = some m.cls := findClass_of_methodNamed B.named
  have hlocks := B.notSynchronized
  have hl := lv_entry ([.int pp]) (n := 1) (Nat.le_of_ble_eq_true rfl)
  rw [lg_entry_eq]
  generalize (lg_sl ([.int pp]) ++ List.replicate (1 - (lg_sl ([.int pp])).length) Slot.unset).toArray = ls at hl ⊢
  have hl : lv_has ls 1 [(0, .int pp)] := hl
  refine lv_iload_n hx hb dM_isWordPlace_0 rfl (lv_at hl 0 rfl) ?_
  refine lv_if_lt (tgt := 20) hx hb dM_isWordPlace_1 (by decide) (fun c_1 => ?_) (fun c_1 => ?_)
  · skip
    refine lv_iconst (v := 0) hx hb dM_isWordPlace_20 (by decide) ?_
    exact W.zret (v := 0) hx hb hr rfl (fun t ht hW => ⟨0, rfl, by simp only [s_M_isWordPlace, if_pos c_1], ht⟩) (fun q h => by cases h) dM_isWordPlace_21
  · skip
    refine lv_iload_n hx hb dM_isWordPlace_4 rfl (lv_at hl 0 rfl) ?_
    refine lv_ldc (v := 65536) hx hb hown (hts _ mbM_isWordPlace_0) dM_isWordPlace_5 ?_
    refine lv_icmp_ge (tgt := 20) hx hb dM_isWordPlace_7 (by decide) (fun c_2 => ?_) (fun c_2 => ?_)
    · skip
      refine lv_iconst (v := 0) hx hb dM_isWordPlace_20 (by decide) ?_
      exact W.zret (v := 0) hx hb hr rfl (fun t ht hW => ⟨0, rfl, by simp only [s_M_isWordPlace, if_neg c_1, if_pos c_2], ht⟩) (fun q h => by cases h) dM_isWordPlace_21
    · skip
      refine lv_iload_n hx hb dM_isWordPlace_10 rfl (lv_at hl 0 rfl) ?_
      refine lv_iconst (v := 4) hx hb dM_isWordPlace_11 (by decide) ?_
      refine lv_irem hx hb dM_isWordPlace_12 (by decide) ?_
      refine lv_if_ne (tgt := 20) hx hb dM_isWordPlace_13 (by decide) (fun c_3 => ?_) (fun c_3 => ?_)
      · skip
        refine lv_iconst (v := 0) hx hb dM_isWordPlace_20 (by decide) ?_
        exact W.zret (v := 0) hx hb hr rfl (fun t ht hW => ⟨0, rfl, by simp only [s_M_isWordPlace, if_neg c_1, if_neg c_2, if_neg c_3], ht⟩) (fun q h => by cases h) dM_isWordPlace_21
      · skip
        refine lv_iconst (v := 1) hx hb dM_isWordPlace_16 (by decide) ?_
        refine lv_goto (tgt := 21) hx hb dM_isWordPlace_17 (by decide) ?_
        exact W.zret (v := 1) hx hb hr rfl (fun t ht hW => ⟨1, rfl, by simp only [s_M_isWordPlace, if_neg c_1, if_neg c_2, if_pos c_3], ht⟩) (fun q h => by cases h) dM_isWordPlace_21
theorem z_M_isWordPlace (pp : Int32) : s_M_isWordPlace pp = 0 ∨ s_M_isWordPlace pp = 1 := by
  unfold s_M_isWordPlace
  (repeat' split) <;> first | exact Or.inl rfl | exact Or.inr rfl | skip
set_option maxRecDepth 100000 in
theorem miM_wordIn_X2 : ∀ w ∈ u_ws RX2 TX2 10, w ∈ wsM_wordIn := by decide +kernel
set_option maxRecDepth 100000 in
theorem mbM_wordIn_1 : (.fieldLink RX2 8 "SoftMapsModel" "bytes" "[I" : Cond) ∈ wsM_wordIn := by decide +kernel
def s_M_wordIn (y : Nat → Int32) (pp : Int32) : Int32 :=
  (((((((0 * 256) + (y (pp + 0).toNatClampNeg)) * 256) + (y (pp + 1).toNatClampNeg)) * 256) + (y (pp + 2).toNatClampNeg)) * 256) + (y (pp + 3).toNatClampNeg)
set_option maxHeartbeats 4000000 in
set_option maxRecDepth 100000 in
theorem c_M_wordIn (l : Launch) (dC : Nat → ClassId) (dI : Nat → Nat → Nat) (k0 yb zb : Nat) (cI : ClassId) (y z : Nat → Int32) (th a1 a2 a3 a4 a5 a6 fo : Int32) (pp : Int32) (hp : pin4 pp) : Met l yM_wordIn wsM_wordIn ({ frames := 0, cells := 0, slots := 0, locals := 0 }) (va_Pc [.ref k0, .int pp] (fun U => va_P (dC, dI) vwCl [(k0, .inr (2, [.int th, .ref yb, .ref zb, .int a1, .int a2, .int a3, .int a4, .int a5, .int a6, .int fo])), (yb, .inl (cI, 65536, .inl y)), (zb, .inl (cI, 33, .inl z))] U.heap ∧ va_K (dC, dI) vwCl [(cI, .int)] U)) (vp_Si (fun x_ => x_ = s_M_wordIn y pp)) 0 0 (fun _ => False) := by
  refine Met.ofW (cc := cM_wordIn) (maxL := 4) (ret := (some .int)) (by decide) rfl ?_
  intro p e s m args below meth c s₁ B hml hv
  obtain ⟨rfl, hP, hK⟩ := hv
  have hx := B.exec
  have hb := B.bytes
  have hr := B.returns
  have hts := atoms_spec (ws := wsM_wordIn) B.pre
  have hown : s.vm.findClass RX2 = some m.cls := findClass_of_methodNamed B.named
  have hlocks := B.notSynchronized
  have hl := lv_entry ([.ref k0, .int pp]) (n := 4) (Nat.le_of_ble_eq_true rfl)
  rw [lg_entry_eq]
  generalize (lg_sl ([.ref k0, .int pp]) ++ List.replicate (4 - (lg_sl ([.ref k0, .int pp])).length) Slot.unset).toArray = ls at hl ⊢
  have hl : lv_has ls 4 [(0, .ref k0), (1, .int pp)] := hl
  have hP : va_P (dC, dI) vwCl [(k0, .inr (2, [.int th, .ref yb, .ref zb, .int a1, .int a2, .int a3, .int a4, .int a5, .int a6, .int fo])), (yb, .inl (cI, 65536, .inl y)), (zb, .inl (cI, 33, .inl z))] s.heap := hP
  refine lv_iconst (v := 0) hx hb dM_wordIn_0 (by decide) ?_
  refine lv_istore_n (lv' := [(2, .int 0), (0, .ref k0), (1, .int pp)]) hx hb dM_wordIn_1 rfl hl (by decide) rfl (fun ls hl => ?_)
  refine lv_iconst (v := 0) hx hb dM_wordIn_2 (by decide) ?_
  refine lv_istore_n (lv' := [(3, .int 0), (2, .int 0), (0, .ref k0), (1, .int pp)]) hx hb dM_wordIn_3 rfl hl (by decide) rfl (fun ls hl => ?_)
  refine lv_iload_n hx hb dM_wordIn_4 rfl (lv_at hl 0 rfl) ?_
  refine lv_iconst (v := 4) hx hb dM_wordIn_5 (by decide) ?_
  refine lv_icmp_ge (tgt := 30) hx hb dM_wordIn_6 (by decide) (fun c_1 => ?_) (fun c_1 => ?_)
  · exact absurd c_1 (by decide)
  · skip
    refine lv_iload_n hx hb dM_wordIn_9 rfl (lv_at hl 1 rfl) ?_
    refine lv_sipush (v := 256) hx hb dM_wordIn_10 (by decide) ?_
    refine lv_imul hx hb dM_wordIn_13 ?_
    refine lv_aload_n hx hb dM_wordIn_14 rfl (lv_at hl 2 rfl) ?_
    refine va_get (D := (dC, dI)) (ci := 2) (v := .ref yb) (C := RX2) (T := TX2) (N := 10) hx hb hts miM_wordIn_X2 hown hK hP 0 rfl rfl 1 (by decide) (hts _ mbM_wordIn_1) (fun _ h9 => h9) rfl dM_wordIn_15 ?_
    refine lv_iload_n hx hb dM_wordIn_18 rfl (lv_at hl 3 rfl) ?_
    refine lv_iload_n hx hb dM_wordIn_19 rfl (lv_at hl 0 rfl) ?_
    refine lv_iadd hx hb dM_wordIn_20 ?_
    refine va_iald hx hb hK hP 1 0 rfl rfl (in4_0 hp) dM_wordIn_21 ?_
    refine lv_iadd hx hb dM_wordIn_22 ?_
    refine lv_istore_n (lv' := [(2, .int ((0 * 256) + (y (pp + 0).toNatClampNeg))), (3, .int 0), (0, .ref k0), (1, .int pp)]) hx hb dM_wordIn_23 rfl hl (by decide) rfl (fun ls hl => ?_)
    refine lv_iinc (v := 1) (lv' := [(3, .int 1), (2, .int ((0 * 256) + (y (pp + 0).toNatClampNeg))), (0, .ref k0), (1, .int pp)]) hx hb dM_wordIn_24 hl (k := 1) rfl rfl (by decide) rfl (fun ls hl => ?_)
    refine lv_goto (tgt := 4) hx hb dM_wordIn_27 (by decide) ?_
    refine lv_iload_n hx hb dM_wordIn_4 rfl (lv_at hl 0 rfl) ?_
    refine lv_iconst (v := 4) hx hb dM_wordIn_5 (by decide) ?_
    refine lv_icmp_ge (tgt := 30) hx hb dM_wordIn_6 (by decide) (fun c_2 => ?_) (fun c_2 => ?_)
    · exact absurd c_2 (by decide)
    · skip
      refine lv_iload_n hx hb dM_wordIn_9 rfl (lv_at hl 1 rfl) ?_
      refine lv_sipush (v := 256) hx hb dM_wordIn_10 (by decide) ?_
      refine lv_imul hx hb dM_wordIn_13 ?_
      refine lv_aload_n hx hb dM_wordIn_14 rfl (lv_at hl 2 rfl) ?_
      refine va_get (D := (dC, dI)) (ci := 2) (v := .ref yb) (C := RX2) (T := TX2) (N := 10) hx hb hts miM_wordIn_X2 hown hK hP 0 rfl rfl 1 (by decide) (hts _ mbM_wordIn_1) (fun _ h9 => h9) rfl dM_wordIn_15 ?_
      refine lv_iload_n hx hb dM_wordIn_18 rfl (lv_at hl 3 rfl) ?_
      refine lv_iload_n hx hb dM_wordIn_19 rfl (lv_at hl 0 rfl) ?_
      refine lv_iadd hx hb dM_wordIn_20 ?_
      refine va_iald hx hb hK hP 1 0 rfl rfl (in4_1 hp) dM_wordIn_21 ?_
      refine lv_iadd hx hb dM_wordIn_22 ?_
      refine lv_istore_n (lv' := [(2, .int ((((0 * 256) + (y (pp + 0).toNatClampNeg)) * 256) + (y (pp + 1).toNatClampNeg))), (3, .int 1), (0, .ref k0), (1, .int pp)]) hx hb dM_wordIn_23 rfl hl (by decide) rfl (fun ls hl => ?_)
      refine lv_iinc (v := 2) (lv' := [(3, .int 2), (2, .int ((((0 * 256) + (y (pp + 0).toNatClampNeg)) * 256) + (y (pp + 1).toNatClampNeg))), (0, .ref k0), (1, .int pp)]) hx hb dM_wordIn_24 hl (k := 1) rfl rfl (by decide) rfl (fun ls hl => ?_)
      refine lv_goto (tgt := 4) hx hb dM_wordIn_27 (by decide) ?_
      refine lv_iload_n hx hb dM_wordIn_4 rfl (lv_at hl 0 rfl) ?_
      refine lv_iconst (v := 4) hx hb dM_wordIn_5 (by decide) ?_
      refine lv_icmp_ge (tgt := 30) hx hb dM_wordIn_6 (by decide) (fun c_3 => ?_) (fun c_3 => ?_)
      · exact absurd c_3 (by decide)
      · skip
        refine lv_iload_n hx hb dM_wordIn_9 rfl (lv_at hl 1 rfl) ?_
        refine lv_sipush (v := 256) hx hb dM_wordIn_10 (by decide) ?_
        refine lv_imul hx hb dM_wordIn_13 ?_
        refine lv_aload_n hx hb dM_wordIn_14 rfl (lv_at hl 2 rfl) ?_
        refine va_get (D := (dC, dI)) (ci := 2) (v := .ref yb) (C := RX2) (T := TX2) (N := 10) hx hb hts miM_wordIn_X2 hown hK hP 0 rfl rfl 1 (by decide) (hts _ mbM_wordIn_1) (fun _ h9 => h9) rfl dM_wordIn_15 ?_
        refine lv_iload_n hx hb dM_wordIn_18 rfl (lv_at hl 3 rfl) ?_
        refine lv_iload_n hx hb dM_wordIn_19 rfl (lv_at hl 0 rfl) ?_
        refine lv_iadd hx hb dM_wordIn_20 ?_
        refine va_iald hx hb hK hP 1 0 rfl rfl (in4_2 hp) dM_wordIn_21 ?_
        refine lv_iadd hx hb dM_wordIn_22 ?_
        refine lv_istore_n (lv' := [(2, .int ((((((0 * 256) + (y (pp + 0).toNatClampNeg)) * 256) + (y (pp + 1).toNatClampNeg)) * 256) + (y (pp + 2).toNatClampNeg))), (3, .int 2), (0, .ref k0), (1, .int pp)]) hx hb dM_wordIn_23 rfl hl (by decide) rfl (fun ls hl => ?_)
        refine lv_iinc (v := 3) (lv' := [(3, .int 3), (2, .int ((((((0 * 256) + (y (pp + 0).toNatClampNeg)) * 256) + (y (pp + 1).toNatClampNeg)) * 256) + (y (pp + 2).toNatClampNeg))), (0, .ref k0), (1, .int pp)]) hx hb dM_wordIn_24 hl (k := 1) rfl rfl (by decide) rfl (fun ls hl => ?_)
        refine lv_goto (tgt := 4) hx hb dM_wordIn_27 (by decide) ?_
        refine lv_iload_n hx hb dM_wordIn_4 rfl (lv_at hl 0 rfl) ?_
        refine lv_iconst (v := 4) hx hb dM_wordIn_5 (by decide) ?_
        refine lv_icmp_ge (tgt := 30) hx hb dM_wordIn_6 (by decide) (fun c_4 => ?_) (fun c_4 => ?_)
        · exact absurd c_4 (by decide)
        · skip
          refine lv_iload_n hx hb dM_wordIn_9 rfl (lv_at hl 1 rfl) ?_
          refine lv_sipush (v := 256) hx hb dM_wordIn_10 (by decide) ?_
          refine lv_imul hx hb dM_wordIn_13 ?_
          refine lv_aload_n hx hb dM_wordIn_14 rfl (lv_at hl 2 rfl) ?_
          refine va_get (D := (dC, dI)) (ci := 2) (v := .ref yb) (C := RX2) (T := TX2) (N := 10) hx hb hts miM_wordIn_X2 hown hK hP 0 rfl rfl 1 (by decide) (hts _ mbM_wordIn_1) (fun _ h9 => h9) rfl dM_wordIn_15 ?_
          refine lv_iload_n hx hb dM_wordIn_18 rfl (lv_at hl 3 rfl) ?_
          refine lv_iload_n hx hb dM_wordIn_19 rfl (lv_at hl 0 rfl) ?_
          refine lv_iadd hx hb dM_wordIn_20 ?_
          refine va_iald hx hb hK hP 1 0 rfl rfl (in4_3 hp) dM_wordIn_21 ?_
          refine lv_iadd hx hb dM_wordIn_22 ?_
          refine lv_istore_n (lv' := [(2, .int ((((((((0 * 256) + (y (pp + 0).toNatClampNeg)) * 256) + (y (pp + 1).toNatClampNeg)) * 256) + (y (pp + 2).toNatClampNeg)) * 256) + (y (pp + 3).toNatClampNeg))), (3, .int 3), (0, .ref k0), (1, .int pp)]) hx hb dM_wordIn_23 rfl hl (by decide) rfl (fun ls hl => ?_)
          refine lv_iinc (v := 4) (lv' := [(3, .int 4), (2, .int ((((((((0 * 256) + (y (pp + 0).toNatClampNeg)) * 256) + (y (pp + 1).toNatClampNeg)) * 256) + (y (pp + 2).toNatClampNeg)) * 256) + (y (pp + 3).toNatClampNeg))), (0, .ref k0), (1, .int pp)]) hx hb dM_wordIn_24 hl (k := 1) rfl rfl (by decide) rfl (fun ls hl => ?_)
          refine lv_goto (tgt := 4) hx hb dM_wordIn_27 (by decide) ?_
          refine lv_iload_n hx hb dM_wordIn_4 rfl (lv_at hl 0 rfl) ?_
          refine lv_iconst (v := 4) hx hb dM_wordIn_5 (by decide) ?_
          refine lv_icmp_ge (tgt := 30) hx hb dM_wordIn_6 (by decide) (fun c_5 => ?_) (fun c_5 => ?_)
          · skip
            refine lv_iload_n hx hb dM_wordIn_30 rfl (lv_at hl 1 rfl) ?_
            exact W.iret (v := (((((((0 * 256) + (y (pp + 0).toNatClampNeg)) * 256) + (y (pp + 1).toNatClampNeg)) * 256) + (y (pp + 2).toNatClampNeg)) * 256) + (y (pp + 3).toNatClampNeg)) hx hb hr (fun t ht hW => ⟨(((((((0 * 256) + (y (pp + 0).toNatClampNeg)) * 256) + (y (pp + 1).toNatClampNeg)) * 256) + (y (pp + 2).toNatClampNeg)) * 256) + (y (pp + 3).toNatClampNeg), rfl, by first | rfl | (unfold s_M_wordIn; rfl), ht⟩) (fun q h => by cases h) dM_wordIn_31
          · exact absurd c_5 (by decide)
set_option maxRecDepth 100000 in
theorem miM_lay_X2 : ∀ w ∈ u_ws RX2 TX2 10, w ∈ wsM_lay := by decide +kernel
set_option maxRecDepth 100000 in
theorem mbM_lay_1 : (.fieldLink RX2 8 "SoftMapsModel" "bytes" "[I" : Cond) ∈ wsM_lay := by decide +kernel
def s_M_lay (y : Nat → Int32) (pp : Int32) (v : Int32) : (Nat → Int32) :=
  (upd (upd (upd (upd y (pp + 0).toNatClampNeg ((v >>> ((24 - (8 * 0) : Int32) &&& 31)) &&& 255)) (pp + 1).toNatClampNeg ((v >>> ((24 - (8 * 1) : Int32) &&& 31)) &&& 255)) (pp + 2).toNatClampNeg ((v >>> ((24 - (8 * 2) : Int32) &&& 31)) &&& 255)) (pp + 3).toNatClampNeg ((v >>> ((24 - (8 * 3) : Int32) &&& 31)) &&& 255))
set_option maxHeartbeats 4000000 in
set_option maxRecDepth 100000 in
theorem c_M_lay (l : Launch) (dC : Nat → ClassId) (dI : Nat → Nat → Nat) (sz : Nat) (k0 yb zb : Nat) (cI : ClassId) (y z : Nat → Int32) (th a1 a2 a3 a4 a5 a6 fo : Int32) (pp : Int32) (v : Int32) (hp : pin4 pp) : Met l yM_lay wsM_lay ({ frames := 0, cells := 0, slots := 0, locals := 0 }) (va_Pc [.ref k0, .int pp, .int v] (fun U => U.heap.size = sz ∧ va_P (dC, dI) vwCl [(k0, .inr (2, [.int th, .ref yb, .ref zb, .int a1, .int a2, .int a3, .int a4, .int a5, .int a6, .int fo])), (yb, .inl (cI, 65536, .inl y)), (zb, .inl (cI, 33, .inl z))] U.heap ∧ va_K (dC, dI) vwCl [(cI, .int)] U ∧ va_D (fun _ => True) [(k0, .inr (2, [.int th, .ref yb, .ref zb, .int a1, .int a2, .int a3, .int a4, .int a5, .int a6, .int fo])), (yb, .inl (cI, 65536, .inl y)), (zb, .inl (cI, 33, .inl z))])) (va_Qv (fun u : (Nat → Int32) => u = s_M_lay y pp v) (fun (u : (Nat → Int32)) (t : State) => va_P (dC, dI) vwCl [(k0, .inr (2, [.int th, .ref yb, .ref zb, .int a1, .int a2, .int a3, .int a4, .int a5, .int a6, .int fo])), (yb, .inl (cI, 65536, .inl u)), (zb, .inl (cI, 33, .inl z))] t.heap ∧ va_K (dC, dI) vwCl [(cI, .int)] t ∧ va_D (va_A [(k0, .inr (2, [.int th, .ref yb, .ref zb, .int a1, .int a2, .int a3, .int a4, .int a5, .int a6, .int fo])), (yb, .inl (cI, 65536, .inl y)), (zb, .inl (cI, 33, .inl z))] sz) [(k0, .inr (2, [.int th, .ref yb, .ref zb, .int a1, .int a2, .int a3, .int a4, .int a5, .int a6, .int fo])), (yb, .inl (cI, 65536, .inl u)), (zb, .inl (cI, 33, .inl z))]) (va_A [(k0, .inr (2, [.int th, .ref yb, .ref zb, .int a1, .int a2, .int a3, .int a4, .int a5, .int a6, .int fo])), (yb, .inl (cI, 65536, .inl y)), (zb, .inl (cI, 33, .inl z))] sz)) 0 0 (va_A [(k0, .inr (2, [.int th, .ref yb, .ref zb, .int a1, .int a2, .int a3, .int a4, .int a5, .int a6, .int fo])), (yb, .inl (cI, 65536, .inl y)), (zb, .inl (cI, 33, .inl z))] sz) := by
  refine Met.ofW (cc := cM_lay) (maxL := 4) (ret := none) (by decide) rfl ?_
  intro p e s m args below meth c s₁ B hml hv
  obtain ⟨rfl, hsz, hP, hK, hD0⟩ := hv
  have hx := B.exec
  have hb := B.bytes
  have hr := B.returns
  have hts := atoms_spec (ws := wsM_lay) B.pre
  have hown : s.vm.findClass RX2 = some m.cls := findClass_of_methodNamed B.named
  have hlocks := B.notSynchronized
  subst hsz
  have hD := hD0.self (sz := s.heap.size)
  generalize hAe : va_A [(k0, .inr (2, [.int th, .ref yb, .ref zb, .int a1, .int a2, .int a3, .int a4, .int a5, .int a6, .int fo])), (yb, .inl (cI, 65536, .inl y)), (zb, .inl (cI, 33, .inl z))] s.heap.size = A at hD ⊢
  have hA : ∀ q : Nat, s.heap.size ≤ q → A q := fun q h => by rw [← hAe]; exact Or.inr h
  have hS : va_S A s.heap s.heap [] := va_S.rf
  have hP : va_P (dC, dI) vwCl [(k0, .inr (2, [.int th, .ref yb, .ref zb, .int a1, .int a2, .int a3, .int a4, .int a5, .int a6, .int fo])), (yb, .inl (cI, 65536, .inl y)), (zb, .inl (cI, 33, .inl z))] s.heap := hP
  have hl := lv_entry ([.ref k0, .int pp, .int v]) (n := 4) (Nat.le_of_ble_eq_true rfl)
  rw [lg_entry_eq]
  generalize (lg_sl ([.ref k0, .int pp, .int v]) ++ List.replicate (4 - (lg_sl ([.ref k0, .int pp, .int v])).length) Slot.unset).toArray = ls at hl ⊢
  have hl : lv_has ls 4 [(0, .ref k0), (1, .int pp), (2, .int v)] := hl
  refine lv_iconst (v := 0) hx hb dM_lay_0 (by decide) ?_
  refine lv_istore_n (lv' := [(3, .int 0), (0, .ref k0), (1, .int pp), (2, .int v)]) hx hb dM_lay_1 rfl hl (by decide) rfl (fun ls hl => ?_)
  refine lv_iload_n hx hb dM_lay_2 rfl (lv_at hl 0 rfl) ?_
  refine lv_iconst (v := 4) hx hb dM_lay_3 (by decide) ?_
  refine lv_icmp_ge (tgt := 34) hx hb dM_lay_4 (by decide) (fun c_1 => ?_) (fun c_1 => ?_)
  · exact absurd c_1 (by decide)
  · skip
    refine lv_aload_n hx hb dM_lay_7 rfl (lv_at hl 1 rfl) ?_
    refine va_get (D := (dC, dI)) (ci := 2) (v := .ref yb) (C := RX2) (T := TX2) (N := 10) hx hb hts miM_lay_X2 hown hK hP 0 rfl rfl 1 (by decide) (hts _ mbM_lay_1) (fun _ h9 => h9) rfl dM_lay_8 ?_
    refine lv_iload_n hx hb dM_lay_11 rfl (lv_at hl 2 rfl) ?_
    refine lv_iload_n hx hb dM_lay_12 rfl (lv_at hl 0 rfl) ?_
    refine lv_iadd hx hb dM_lay_13 ?_
    refine lv_iload_n hx hb dM_lay_14 rfl (lv_at hl 3 rfl) ?_
    refine lv_bipush (v := 24) hx hb dM_lay_15 (by decide) ?_
    refine lv_bipush (v := 8) hx hb dM_lay_17 (by decide) ?_
    refine lv_iload_n hx hb dM_lay_19 rfl (lv_at hl 0 rfl) ?_
    refine lv_imul hx hb dM_lay_20 ?_
    refine lv_isub hx hb dM_lay_21 ?_
    refine lv_ishr hx hb dM_lay_22 ?_
    refine lv_sipush (v := 255) hx hb dM_lay_23 (by decide) ?_
    refine lv_iand hx hb dM_lay_26 ?_
    refine va_iast hx hb hK hP hD hS 1 0 rfl rfl (in4_0 hp) dM_lay_27 (fun H locs hP hD hS => ?_)
    have hP : va_P (dC, dI) vwCl [(k0, .inr (2, [.int th, .ref yb, .ref zb, .int a1, .int a2, .int a3, .int a4, .int a5, .int a6, .int fo])), (yb, .inl (cI, 65536, .inl (upd y (pp + 0).toNatClampNeg ((v >>> ((24 - (8 * 0) : Int32) &&& 31)) &&& 255)))), (zb, .inl (cI, 33, .inl z))] H := hP
    have hD : va_D A [(k0, .inr (2, [.int th, .ref yb, .ref zb, .int a1, .int a2, .int a3, .int a4, .int a5, .int a6, .int fo])), (yb, .inl (cI, 65536, .inl (upd y (pp + 0).toNatClampNeg ((v >>> ((24 - (8 * 0) : Int32) &&& 31)) &&& 255)))), (zb, .inl (cI, 33, .inl z))] := hD
    refine lv_iinc (v := 1) (lv' := [(3, .int 1), (0, .ref k0), (1, .int pp), (2, .int v)]) hx hb dM_lay_28 hl (k := 0) rfl rfl (by decide) rfl (fun ls hl => ?_)
    refine lv_goto (tgt := 2) hx hb dM_lay_31 (by decide) ?_
    refine lv_iload_n hx hb dM_lay_2 rfl (lv_at hl 0 rfl) ?_
    refine lv_iconst (v := 4) hx hb dM_lay_3 (by decide) ?_
    refine lv_icmp_ge (tgt := 34) hx hb dM_lay_4 (by decide) (fun c_2 => ?_) (fun c_2 => ?_)
    · exact absurd c_2 (by decide)
    · skip
      refine lv_aload_n hx hb dM_lay_7 rfl (lv_at hl 1 rfl) ?_
      refine va_get (D := (dC, dI)) (ci := 2) (v := .ref yb) (C := RX2) (T := TX2) (N := 10) hx hb hts miM_lay_X2 hown hK hP 0 rfl rfl 1 (by decide) (hts _ mbM_lay_1) (fun _ h9 => h9) rfl dM_lay_8 ?_
      refine lv_iload_n hx hb dM_lay_11 rfl (lv_at hl 2 rfl) ?_
      refine lv_iload_n hx hb dM_lay_12 rfl (lv_at hl 0 rfl) ?_
      refine lv_iadd hx hb dM_lay_13 ?_
      refine lv_iload_n hx hb dM_lay_14 rfl (lv_at hl 3 rfl) ?_
      refine lv_bipush (v := 24) hx hb dM_lay_15 (by decide) ?_
      refine lv_bipush (v := 8) hx hb dM_lay_17 (by decide) ?_
      refine lv_iload_n hx hb dM_lay_19 rfl (lv_at hl 0 rfl) ?_
      refine lv_imul hx hb dM_lay_20 ?_
      refine lv_isub hx hb dM_lay_21 ?_
      refine lv_ishr hx hb dM_lay_22 ?_
      refine lv_sipush (v := 255) hx hb dM_lay_23 (by decide) ?_
      refine lv_iand hx hb dM_lay_26 ?_
      refine va_iast hx hb hK hP hD hS 1 0 rfl rfl (in4_1 hp) dM_lay_27 (fun H locs hP hD hS => ?_)
      have hP : va_P (dC, dI) vwCl [(k0, .inr (2, [.int th, .ref yb, .ref zb, .int a1, .int a2, .int a3, .int a4, .int a5, .int a6, .int fo])), (yb, .inl (cI, 65536, .inl (upd (upd y (pp + 0).toNatClampNeg ((v >>> ((24 - (8 * 0) : Int32) &&& 31)) &&& 255)) (pp + 1).toNatClampNeg ((v >>> ((24 - (8 * 1) : Int32) &&& 31)) &&& 255)))), (zb, .inl (cI, 33, .inl z))] H := hP
      have hD : va_D A [(k0, .inr (2, [.int th, .ref yb, .ref zb, .int a1, .int a2, .int a3, .int a4, .int a5, .int a6, .int fo])), (yb, .inl (cI, 65536, .inl (upd (upd y (pp + 0).toNatClampNeg ((v >>> ((24 - (8 * 0) : Int32) &&& 31)) &&& 255)) (pp + 1).toNatClampNeg ((v >>> ((24 - (8 * 1) : Int32) &&& 31)) &&& 255)))), (zb, .inl (cI, 33, .inl z))] := hD
      refine lv_iinc (v := 2) (lv' := [(3, .int 2), (0, .ref k0), (1, .int pp), (2, .int v)]) hx hb dM_lay_28 hl (k := 0) rfl rfl (by decide) rfl (fun ls hl => ?_)
      refine lv_goto (tgt := 2) hx hb dM_lay_31 (by decide) ?_
      refine lv_iload_n hx hb dM_lay_2 rfl (lv_at hl 0 rfl) ?_
      refine lv_iconst (v := 4) hx hb dM_lay_3 (by decide) ?_
      refine lv_icmp_ge (tgt := 34) hx hb dM_lay_4 (by decide) (fun c_3 => ?_) (fun c_3 => ?_)
      · exact absurd c_3 (by decide)
      · skip
        refine lv_aload_n hx hb dM_lay_7 rfl (lv_at hl 1 rfl) ?_
        refine va_get (D := (dC, dI)) (ci := 2) (v := .ref yb) (C := RX2) (T := TX2) (N := 10) hx hb hts miM_lay_X2 hown hK hP 0 rfl rfl 1 (by decide) (hts _ mbM_lay_1) (fun _ h9 => h9) rfl dM_lay_8 ?_
        refine lv_iload_n hx hb dM_lay_11 rfl (lv_at hl 2 rfl) ?_
        refine lv_iload_n hx hb dM_lay_12 rfl (lv_at hl 0 rfl) ?_
        refine lv_iadd hx hb dM_lay_13 ?_
        refine lv_iload_n hx hb dM_lay_14 rfl (lv_at hl 3 rfl) ?_
        refine lv_bipush (v := 24) hx hb dM_lay_15 (by decide) ?_
        refine lv_bipush (v := 8) hx hb dM_lay_17 (by decide) ?_
        refine lv_iload_n hx hb dM_lay_19 rfl (lv_at hl 0 rfl) ?_
        refine lv_imul hx hb dM_lay_20 ?_
        refine lv_isub hx hb dM_lay_21 ?_
        refine lv_ishr hx hb dM_lay_22 ?_
        refine lv_sipush (v := 255) hx hb dM_lay_23 (by decide) ?_
        refine lv_iand hx hb dM_lay_26 ?_
        refine va_iast hx hb hK hP hD hS 1 0 rfl rfl (in4_2 hp) dM_lay_27 (fun H locs hP hD hS => ?_)
        have hP : va_P (dC, dI) vwCl [(k0, .inr (2, [.int th, .ref yb, .ref zb, .int a1, .int a2, .int a3, .int a4, .int a5, .int a6, .int fo])), (yb, .inl (cI, 65536, .inl (upd (upd (upd y (pp + 0).toNatClampNeg ((v >>> ((24 - (8 * 0) : Int32) &&& 31)) &&& 255)) (pp + 1).toNatClampNeg ((v >>> ((24 - (8 * 1) : Int32) &&& 31)) &&& 255)) (pp + 2).toNatClampNeg ((v >>> ((24 - (8 * 2) : Int32) &&& 31)) &&& 255)))), (zb, .inl (cI, 33, .inl z))] H := hP
        have hD : va_D A [(k0, .inr (2, [.int th, .ref yb, .ref zb, .int a1, .int a2, .int a3, .int a4, .int a5, .int a6, .int fo])), (yb, .inl (cI, 65536, .inl (upd (upd (upd y (pp + 0).toNatClampNeg ((v >>> ((24 - (8 * 0) : Int32) &&& 31)) &&& 255)) (pp + 1).toNatClampNeg ((v >>> ((24 - (8 * 1) : Int32) &&& 31)) &&& 255)) (pp + 2).toNatClampNeg ((v >>> ((24 - (8 * 2) : Int32) &&& 31)) &&& 255)))), (zb, .inl (cI, 33, .inl z))] := hD
        refine lv_iinc (v := 3) (lv' := [(3, .int 3), (0, .ref k0), (1, .int pp), (2, .int v)]) hx hb dM_lay_28 hl (k := 0) rfl rfl (by decide) rfl (fun ls hl => ?_)
        refine lv_goto (tgt := 2) hx hb dM_lay_31 (by decide) ?_
        refine lv_iload_n hx hb dM_lay_2 rfl (lv_at hl 0 rfl) ?_
        refine lv_iconst (v := 4) hx hb dM_lay_3 (by decide) ?_
        refine lv_icmp_ge (tgt := 34) hx hb dM_lay_4 (by decide) (fun c_4 => ?_) (fun c_4 => ?_)
        · exact absurd c_4 (by decide)
        · skip
          refine lv_aload_n hx hb dM_lay_7 rfl (lv_at hl 1 rfl) ?_
          refine va_get (D := (dC, dI)) (ci := 2) (v := .ref yb) (C := RX2) (T := TX2) (N := 10) hx hb hts miM_lay_X2 hown hK hP 0 rfl rfl 1 (by decide) (hts _ mbM_lay_1) (fun _ h9 => h9) rfl dM_lay_8 ?_
          refine lv_iload_n hx hb dM_lay_11 rfl (lv_at hl 2 rfl) ?_
          refine lv_iload_n hx hb dM_lay_12 rfl (lv_at hl 0 rfl) ?_
          refine lv_iadd hx hb dM_lay_13 ?_
          refine lv_iload_n hx hb dM_lay_14 rfl (lv_at hl 3 rfl) ?_
          refine lv_bipush (v := 24) hx hb dM_lay_15 (by decide) ?_
          refine lv_bipush (v := 8) hx hb dM_lay_17 (by decide) ?_
          refine lv_iload_n hx hb dM_lay_19 rfl (lv_at hl 0 rfl) ?_
          refine lv_imul hx hb dM_lay_20 ?_
          refine lv_isub hx hb dM_lay_21 ?_
          refine lv_ishr hx hb dM_lay_22 ?_
          refine lv_sipush (v := 255) hx hb dM_lay_23 (by decide) ?_
          refine lv_iand hx hb dM_lay_26 ?_
          refine va_iast hx hb hK hP hD hS 1 0 rfl rfl (in4_3 hp) dM_lay_27 (fun H locs hP hD hS => ?_)
          have hP : va_P (dC, dI) vwCl [(k0, .inr (2, [.int th, .ref yb, .ref zb, .int a1, .int a2, .int a3, .int a4, .int a5, .int a6, .int fo])), (yb, .inl (cI, 65536, .inl (upd (upd (upd (upd y (pp + 0).toNatClampNeg ((v >>> ((24 - (8 * 0) : Int32) &&& 31)) &&& 255)) (pp + 1).toNatClampNeg ((v >>> ((24 - (8 * 1) : Int32) &&& 31)) &&& 255)) (pp + 2).toNatClampNeg ((v >>> ((24 - (8 * 2) : Int32) &&& 31)) &&& 255)) (pp + 3).toNatClampNeg ((v >>> ((24 - (8 * 3) : Int32) &&& 31)) &&& 255)))), (zb, .inl (cI, 33, .inl z))] H := hP
          have hD : va_D A [(k0, .inr (2, [.int th, .ref yb, .ref zb, .int a1, .int a2, .int a3, .int a4, .int a5, .int a6, .int fo])), (yb, .inl (cI, 65536, .inl (upd (upd (upd (upd y (pp + 0).toNatClampNeg ((v >>> ((24 - (8 * 0) : Int32) &&& 31)) &&& 255)) (pp + 1).toNatClampNeg ((v >>> ((24 - (8 * 1) : Int32) &&& 31)) &&& 255)) (pp + 2).toNatClampNeg ((v >>> ((24 - (8 * 2) : Int32) &&& 31)) &&& 255)) (pp + 3).toNatClampNeg ((v >>> ((24 - (8 * 3) : Int32) &&& 31)) &&& 255)))), (zb, .inl (cI, 33, .inl z))] := hD
          refine lv_iinc (v := 4) (lv' := [(3, .int 4), (0, .ref k0), (1, .int pp), (2, .int v)]) hx hb dM_lay_28 hl (k := 0) rfl rfl (by decide) rfl (fun ls hl => ?_)
          refine lv_goto (tgt := 2) hx hb dM_lay_31 (by decide) ?_
          refine lv_iload_n hx hb dM_lay_2 rfl (lv_at hl 0 rfl) ?_
          refine lv_iconst (v := 4) hx hb dM_lay_3 (by decide) ?_
          refine lv_icmp_ge (tgt := 34) hx hb dM_lay_4 (by decide) (fun c_5 => ?_) (fun c_5 => ?_)
          · skip
            exact W.vret hx hb hr (fun t ht hW => ⟨⟨(upd (upd (upd (upd y (pp + 0).toNatClampNeg ((v >>> ((24 - (8 * 0) : Int32) &&& 31)) &&& 255)) (pp + 1).toNatClampNeg ((v >>> ((24 - (8 * 1) : Int32) &&& 31)) &&& 255)) (pp + 2).toNatClampNeg ((v >>> ((24 - (8 * 2) : Int32) &&& 31)) &&& 255)) (pp + 3).toNatClampNeg ((v >>> ((24 - (8 * 3) : Int32) &&& 31)) &&& 255)), rfl, by first | rfl | (unfold s_M_lay; rfl), by rw [ht]; exact hP, va_K.moved hW.alike hK, hD⟩, hS.F ht⟩) hS.2.2 dM_lay_34
          · exact absurd c_5 (by decide)
theorem mwp_n {p : Int32} (h : ¬ s_M_isWordPlace p = 0) : ∃ n : Nat, n < 65536 ∧ n % 4 = 0 ∧ p = nI n := by
  unfold s_M_isWordPlace at h
  split at h
  · exact absurd rfl h
  · split at h
    · exact absurd rfl h
    · split at h
      · rename_i h0 h1 h2
        obtain ⟨n, hn, rfl⟩ := pl_n h0 h1
        have e : (4 : Int32) = nI 4 := rfl
        rw [e, pk_rem (by omega) (by omega) (by omega)] at h2
        have e0 : (0 : Int32) = nI 0 := rfl
        rw [e0, nI_eq (by omega) (by omega)] at h2
        exact ⟨n, hn, h2, rfl⟩
      · exact absurd rfl h
theorem mwp_4 {p : Int32} (h : ¬ s_M_isWordPlace p = 0) : pin4 p := by
  obtain ⟨n, h1, h2, h3⟩ := mwp_n h
  exact pin4_of h1 h2 h3
set_option maxRecDepth 100000 in
theorem miM_poke_X2 : ∀ w ∈ u_ws RX2 TX2 10, w ∈ wsM_poke := by decide +kernel
set_option maxRecDepth 100000 in
theorem mbM_poke_1 : (.fieldLink RX2 17 "SoftMapsModel" "thrown" "I" : Cond) ∈ wsM_poke := by decide +kernel
def s_M_poke (y : Nat → Int32) (pp : Int32) (v : Int32) : Int32 × Int32 × (Nat → Int32) :=
  if s_M_isWordPlace pp = 0 then
    (0, (0, y))
  else
    (1, (0, (s_M_lay y pp v)))
set_option maxHeartbeats 4000000 in
set_option maxRecDepth 100000 in
theorem c_M_poke (l : Launch) (dC : Nat → ClassId) (dI : Nat → Nat → Nat) (sz : Nat) (k0 yb zb : Nat) (cI : ClassId) (y z : Nat → Int32) (th a1 a2 a3 a4 a5 a6 fo : Int32) (pp : Int32) (v : Int32)  : Met l yM_poke wsM_poke ({ frames := 1, cells := 0, slots := 0, locals := 23 }) (va_Pc [.ref k0, .int pp, .int v] (fun U => U.heap.size = sz ∧ va_P (dC, dI) vwCl [(k0, .inr (2, [.int th, .ref yb, .ref zb, .int a1, .int a2, .int a3, .int a4, .int a5, .int a6, .int fo])), (yb, .inl (cI, 65536, .inl y)), (zb, .inl (cI, 33, .inl z))] U.heap ∧ va_K (dC, dI) vwCl [(cI, .int)] U ∧ va_D (fun _ => True) [(k0, .inr (2, [.int th, .ref yb, .ref zb, .int a1, .int a2, .int a3, .int a4, .int a5, .int a6, .int fo])), (yb, .inl (cI, 65536, .inl y)), (zb, .inl (cI, 33, .inl z))])) (va_Qi (fun (a_ : Int32) (u : Int32 × (Nat → Int32)) => (a_, u) = s_M_poke y pp v) (fun (u : Int32 × (Nat → Int32)) (t : State) => va_P (dC, dI) vwCl [(k0, .inr (2, [.int u.1, .ref yb, .ref zb, .int a1, .int a2, .int a3, .int a4, .int a5, .int a6, .int fo])), (yb, .inl (cI, 65536, .inl u.2)), (zb, .inl (cI, 33, .inl z))] t.heap ∧ va_K (dC, dI) vwCl [(cI, .int)] t ∧ va_D (va_A [(k0, .inr (2, [.int th, .ref yb, .ref zb, .int a1, .int a2, .int a3, .int a4, .int a5, .int a6, .int fo])), (yb, .inl (cI, 65536, .inl y)), (zb, .inl (cI, 33, .inl z))] sz) [(k0, .inr (2, [.int u.1, .ref yb, .ref zb, .int a1, .int a2, .int a3, .int a4, .int a5, .int a6, .int fo])), (yb, .inl (cI, 65536, .inl u.2)), (zb, .inl (cI, 33, .inl z))]) (va_A [(k0, .inr (2, [.int th, .ref yb, .ref zb, .int a1, .int a2, .int a3, .int a4, .int a5, .int a6, .int fo])), (yb, .inl (cI, 65536, .inl y)), (zb, .inl (cI, 33, .inl z))] sz)) 0 0 (va_A [(k0, .inr (2, [.int th, .ref yb, .ref zb, .int a1, .int a2, .int a3, .int a4, .int a5, .int a6, .int fo])), (yb, .inl (cI, 65536, .inl y)), (zb, .inl (cI, 33, .inl z))] sz) := by
  refine Met.ofW (cc := cM_poke) (maxL := 3) (ret := (some .boolean)) (by decide) rfl ?_
  intro p e s m args below meth c s₁ B hml hv
  obtain ⟨rfl, hsz, hP, hK, hD0⟩ := hv
  have hx := B.exec
  have hb := B.bytes
  have hr := B.returns
  have hts := atoms_spec (ws := wsM_poke) B.pre
  have hown : s.vm.findClass RX2 = some m.cls := findClass_of_methodNamed B.named
  have hlocks := B.notSynchronized
  subst hsz
  have hD := hD0.self (sz := s.heap.size)
  generalize hAe : va_A [(k0, .inr (2, [.int th, .ref yb, .ref zb, .int a1, .int a2, .int a3, .int a4, .int a5, .int a6, .int fo])), (yb, .inl (cI, 65536, .inl y)), (zb, .inl (cI, 33, .inl z))] s.heap.size = A at hD ⊢
  have hA : ∀ q : Nat, s.heap.size ≤ q → A q := fun q h => by rw [← hAe]; exact Or.inr h
  have hS : va_S A s.heap s.heap [] := va_S.rf
  have hP : va_P (dC, dI) vwCl [(k0, .inr (2, [.int th, .ref yb, .ref zb, .int a1, .int a2, .int a3, .int a4, .int a5, .int a6, .int fo])), (yb, .inl (cI, 65536, .inl y)), (zb, .inl (cI, 33, .inl z))] s.heap := hP
  have hl := lv_entry ([.ref k0, .int pp, .int v]) (n := 3) (Nat.le_of_ble_eq_true rfl)
  rw [lg_entry_eq]
  generalize (lg_sl ([.ref k0, .int pp, .int v]) ++ List.replicate (3 - (lg_sl ([.ref k0, .int pp, .int v])).length) Slot.unset).toArray = ls at hl ⊢
  have hl : lv_has ls 3 [(0, .ref k0), (1, .int pp), (2, .int v)] := hl
  refine lv_aload_n hx hb dM_poke_0 rfl (lv_at hl 0 rfl) ?_
  refine lv_iconst (v := 0) hx hb dM_poke_1 (by decide) ?_
  refine va_put (D := (dC, dI)) (ci := 2) (v := .int 0) (ty := tyX2 0) (C := RX2) (T := TX2) (N := 10) hx hb hts miM_poke_X2 tyX2 tyX2_ok nmX2 hown hK hP hD hS 0 rfl rfl 0 (by decide) (hts _ mbM_poke_1) (fun _ h9 => h9) rfl (by decide +kernel) rfl rfl (Nat.le_of_ble_eq_true rfl) dM_poke_2 (fun H locs hP hD hS => ?_)
  have hP : va_P (dC, dI) vwCl [(k0, .inr (2, [.int 0, .ref yb, .ref zb, .int a1, .int a2, .int a3, .int a4, .int a5, .int a6, .int fo])), (yb, .inl (cI, 65536, .inl y)), (zb, .inl (cI, 33, .inl z))] H := hP
  have hD : va_D A [(k0, .inr (2, [.int 0, .ref yb, .ref zb, .int a1, .int a2, .int a3, .int a4, .int a5, .int a6, .int fo])), (yb, .inl (cI, 65536, .inl y)), (zb, .inl (cI, 33, .inl z))] := hD
  refine lv_iload_n hx hb dM_poke_5 rfl (lv_at hl 1 rfl) ?_
  refine vp_callSi (va_Run.run (va_runS (As := [.int pp]) (rest := []) ⟨hx, hb, hml, hown, hts⟩ (c_M_isWordPlace l pp) (va_cwS 1 hts gM_poke_M_isWordPlace rfl rfl rfl (by decide +kernel) ⟨Nat.le_of_ble_eq_true rfl, Nat.le_of_ble_eq_true rfl⟩) ⟨fun a U g mk q => q, fun U hU hW => ⟨rfl, trivial⟩⟩ rfl rfl hl.1 rfl (lv_room (Nat.le_of_ble_eq_true rfl)) dM_poke_6 ⟨Nat.le_of_ble_eq_true rfl, Nat.le_of_ble_eq_true rfl⟩)) (fun r_1 hw_2 => ?_)
  subst hw_2
  refine lv_if_ne (tgt := 14) hx hb dM_poke_9 (by decide) (fun c_3 => ?_) (fun c_3 => ?_)
  · skip
    refine lv_aload_n hx hb dM_poke_14 rfl (lv_at hl 0 rfl) ?_
    refine lv_iload_n hx hb dM_poke_15 rfl (lv_at hl 1 rfl) ?_
    refine lv_iload_n hx hb dM_poke_16 rfl (lv_at hl 2 rfl) ?_
    have hPc := hP.sub (ws' := [(k0, .inr (2, [.int 0, .ref yb, .ref zb, .int a1, .int a2, .int a3, .int a4, .int a5, .int a6, .int fo])), (yb, .inl (cI, 65536, .inl y)), (zb, .inl (cI, 33, .inl z))]) [0, 1, 2] rfl
    have hDc := hD.sub (ws' := [(k0, .inr (2, [.int 0, .ref yb, .ref zb, .int a1, .int a2, .int a3, .int a4, .int a5, .int a6, .int fo])), (yb, .inl (cI, 65536, .inl y)), (zb, .inl (cI, 33, .inl z))]) [0, 1, 2] (by decide) rfl
    have hFc := va_free (wc := [(k0, .inr (2, [.int 0, .ref yb, .ref zb, .int a1, .int a2, .int a3, .int a4, .int a5, .int a6, .int fo])), (yb, .inl (cI, 65536, .inl y)), (zb, .inl (cI, 33, .inl z))]) hD hS hA [0, 1, 2] rfl
    have hKc := hK.sub (tys' := [(cI, .int)]) [0] rfl
    refine va_callv (va_runV (As := [.int pp, .int v]) (rest := []) ⟨hx, hb, hml, hown, hts⟩ (c_M_lay l dC dI (H.size) k0 yb zb cI y z 0 a1 a2 a3 a4 a5 a6 fo pp v (mwp_4 c_3)) (cwV 2 hts gM_poke_M_lay rfl rfl rfl (by decide +kernel) ⟨Nat.le_of_ble_eq_true rfl, Nat.le_of_ble_eq_true rfl⟩) ⟨fun a U g mk q => by obtain ⟨q0, q1, qP, qK, qD⟩ := q; exact ⟨q0, q1, qP, va_K.moved (u := U) (U := U.calling g mk a) (Vm.Alike.refl U.vm) qK, qD⟩, va_recv hKc hPc (ci := 2) (q0 := 0) rfl rfl, fun U hU hW => ⟨rfl, by rw [hU], by rw [hU]; exact hPc, va_K.moved hW.alike hKc, hDc.weaken (fun _ _ _ _ => trivial)⟩⟩ rfl rfl hl.1 rfl (lv_room (Nat.le_of_ble_eq_true rfl)) dM_poke_17 ⟨Nat.le_of_ble_eq_true rfl, Nat.le_of_ble_eq_true rfl⟩) hS (fun q _ h => hFc q h) hFc (fun u_6 t H1 locs ht hvm hw_5 hB hz1 hk1 hS => ?_)
    subst hw_5
    obtain ⟨hP1, hK1, hD1⟩ := hB
    rw [ht] at hP1
    obtain ⟨hP, hD⟩ := va_join (wr := []) (w1 := [(k0, .inr (2, [.int 0, .ref yb, .ref zb, .int a1, .int a2, .int a3, .int a4, .int a5, .int a6, .int fo])), (yb, .inl (cI, 65536, .inl (s_M_lay y pp v))), (zb, .inl (cI, 33, .inl z))]) hP hD [0, 1, 2] [] rfl rfl (by decide) (by decide) hk1 hFc hP1 hD1
    generalize H1 = H at hP hS ⊢
    have hP : va_P (dC, dI) vwCl [(k0, .inr (2, [.int 0, .ref yb, .ref zb, .int a1, .int a2, .int a3, .int a4, .int a5, .int a6, .int fo])), (yb, .inl (cI, 65536, .inl (s_M_lay y pp v))), (zb, .inl (cI, 33, .inl z))] H := hP
    have hD : va_D A [(k0, .inr (2, [.int 0, .ref yb, .ref zb, .int a1, .int a2, .int a3, .int a4, .int a5, .int a6, .int fo])), (yb, .inl (cI, 65536, .inl (s_M_lay y pp v))), (zb, .inl (cI, 33, .inl z))] := hD
    refine lv_iconst (v := 1) hx hb dM_poke_20 (by decide) ?_
    exact W.zret (v := 1) hx hb hr rfl (fun t ht hW => ⟨⟨1, (0, (s_M_lay y pp v)), rfl, by simp only [s_M_poke, if_neg c_3], by rw [ht]; exact hP, va_K.moved hW.alike hK, hD⟩, hS.F ht⟩) hS.2.2 dM_poke_21
  · skip
    refine lv_iconst (v := 0) hx hb dM_poke_12 (by decide) ?_
    exact W.zret (v := 0) hx hb hr rfl (fun t ht hW => ⟨⟨0, (0, y), rfl, by simp only [s_M_poke, if_pos c_3], by rw [ht]; exact hP, va_K.moved hW.alike hK, hD⟩, hS.F ht⟩) hS.2.2 dM_poke_13
set_option maxRecDepth 100000 in
theorem miM_word_X2 : ∀ w ∈ u_ws RX2 TX2 10, w ∈ wsM_word := by decide +kernel
set_option maxRecDepth 100000 in
theorem mbM_word_1 : (.fieldLink RX2 17 "SoftMapsModel" "thrown" "I" : Cond) ∈ wsM_word := by decide +kernel
def s_M_word (y : Nat → Int32) (pp : Int32) : Int32 × Int32 :=
  if s_M_isWordPlace pp = 0 then
    (0, 0)
  else
    (s_M_wordIn y pp, 0)
set_option maxHeartbeats 4000000 in
set_option maxRecDepth 100000 in
theorem c_M_word (l : Launch) (dC : Nat → ClassId) (dI : Nat → Nat → Nat) (sz : Nat) (k0 yb zb : Nat) (cI : ClassId) (y z : Nat → Int32) (th a1 a2 a3 a4 a5 a6 fo : Int32) (pp : Int32)  : Met l yM_word wsM_word ({ frames := 1, cells := 0, slots := 0, locals := 23 }) (va_Pc [.ref k0, .int pp] (fun U => U.heap.size = sz ∧ va_P (dC, dI) vwCl [(k0, .inr (2, [.int th, .ref yb, .ref zb, .int a1, .int a2, .int a3, .int a4, .int a5, .int a6, .int fo])), (yb, .inl (cI, 65536, .inl y)), (zb, .inl (cI, 33, .inl z))] U.heap ∧ va_K (dC, dI) vwCl [(cI, .int)] U ∧ va_D (fun _ => True) [(k0, .inr (2, [.int th, .ref yb, .ref zb, .int a1, .int a2, .int a3, .int a4, .int a5, .int a6, .int fo])), (yb, .inl (cI, 65536, .inl y)), (zb, .inl (cI, 33, .inl z))])) (va_Qi (fun (a_ : Int32) (u : Int32) => (a_, u) = s_M_word y pp) (fun (u : Int32) (t : State) => va_P (dC, dI) vwCl [(k0, .inr (2, [.int u, .ref yb, .ref zb, .int a1, .int a2, .int a3, .int a4, .int a5, .int a6, .int fo])), (yb, .inl (cI, 65536, .inl y)), (zb, .inl (cI, 33, .inl z))] t.heap ∧ va_K (dC, dI) vwCl [(cI, .int)] t ∧ va_D (va_A [(k0, .inr (2, [.int th, .ref yb, .ref zb, .int a1, .int a2, .int a3, .int a4, .int a5, .int a6, .int fo])), (yb, .inl (cI, 65536, .inl y)), (zb, .inl (cI, 33, .inl z))] sz) [(k0, .inr (2, [.int u, .ref yb, .ref zb, .int a1, .int a2, .int a3, .int a4, .int a5, .int a6, .int fo])), (yb, .inl (cI, 65536, .inl y)), (zb, .inl (cI, 33, .inl z))]) (va_A [(k0, .inr (2, [.int th, .ref yb, .ref zb, .int a1, .int a2, .int a3, .int a4, .int a5, .int a6, .int fo])), (yb, .inl (cI, 65536, .inl y)), (zb, .inl (cI, 33, .inl z))] sz)) 0 0 (va_A [(k0, .inr (2, [.int th, .ref yb, .ref zb, .int a1, .int a2, .int a3, .int a4, .int a5, .int a6, .int fo])), (yb, .inl (cI, 65536, .inl y)), (zb, .inl (cI, 33, .inl z))] sz) := by
  refine Met.ofW (cc := cM_word) (maxL := 2) (ret := (some .int)) (by decide) rfl ?_
  intro p e s m args below meth c s₁ B hml hv
  obtain ⟨rfl, hsz, hP, hK, hD0⟩ := hv
  have hx := B.exec
  have hb := B.bytes
  have hr := B.returns
  have hts := atoms_spec (ws := wsM_word) B.pre
  have hown : s.vm.findClass RX2 = some m.cls := findClass_of_methodNamed B.named
  have hlocks := B.notSynchronized
  subst hsz
  have hD := hD0.self (sz := s.heap.size)
  generalize hAe : va_A [(k0, .inr (2, [.int th, .ref yb, .ref zb, .int a1, .int a2, .int a3, .int a4, .int a5, .int a6, .int fo])), (yb, .inl (cI, 65536, .inl y)), (zb, .inl (cI, 33, .inl z))] s.heap.size = A at hD ⊢
  have hA : ∀ q : Nat, s.heap.size ≤ q → A q := fun q h => by rw [← hAe]; exact Or.inr h
  have hS : va_S A s.heap s.heap [] := va_S.rf
  have hP : va_P (dC, dI) vwCl [(k0, .inr (2, [.int th, .ref yb, .ref zb, .int a1, .int a2, .int a3, .int a4, .int a5, .int a6, .int fo])), (yb, .inl (cI, 65536, .inl y)), (zb, .inl (cI, 33, .inl z))] s.heap := hP
  have hl := lv_entry ([.ref k0, .int pp]) (n := 2) (Nat.le_of_ble_eq_true rfl)
  rw [lg_entry_eq]
  generalize (lg_sl ([.ref k0, .int pp]) ++ List.replicate (2 - (lg_sl ([.ref k0, .int pp])).length) Slot.unset).toArray = ls at hl ⊢
  have hl : lv_has ls 2 [(0, .ref k0), (1, .int pp)] := hl
  refine lv_aload_n hx hb dM_word_0 rfl (lv_at hl 0 rfl) ?_
  refine lv_iconst (v := 0) hx hb dM_word_1 (by decide) ?_
  refine va_put (D := (dC, dI)) (ci := 2) (v := .int 0) (ty := tyX2 0) (C := RX2) (T := TX2) (N := 10) hx hb hts miM_word_X2 tyX2 tyX2_ok nmX2 hown hK hP hD hS 0 rfl rfl 0 (by decide) (hts _ mbM_word_1) (fun _ h9 => h9) rfl (by decide +kernel) rfl rfl (Nat.le_of_ble_eq_true rfl) dM_word_2 (fun H locs hP hD hS => ?_)
  have hP : va_P (dC, dI) vwCl [(k0, .inr (2, [.int 0, .ref yb, .ref zb, .int a1, .int a2, .int a3, .int a4, .int a5, .int a6, .int fo])), (yb, .inl (cI, 65536, .inl y)), (zb, .inl (cI, 33, .inl z))] H := hP
  have hD : va_D A [(k0, .inr (2, [.int 0, .ref yb, .ref zb, .int a1, .int a2, .int a3, .int a4, .int a5, .int a6, .int fo])), (yb, .inl (cI, 65536, .inl y)), (zb, .inl (cI, 33, .inl z))] := hD
  refine lv_iload_n hx hb dM_word_5 rfl (lv_at hl 1 rfl) ?_
  refine vp_callSi (va_Run.run (va_runS (As := [.int pp]) (rest := []) ⟨hx, hb, hml, hown, hts⟩ (c_M_isWordPlace l pp) (va_cwS 1 hts gM_word_M_isWordPlace rfl rfl rfl (by decide +kernel) ⟨Nat.le_of_ble_eq_true rfl, Nat.le_of_ble_eq_true rfl⟩) ⟨fun a U g mk q => q, fun U hU hW => ⟨rfl, trivial⟩⟩ rfl rfl hl.1 rfl (lv_room (Nat.le_of_ble_eq_true rfl)) dM_word_6 ⟨Nat.le_of_ble_eq_true rfl, Nat.le_of_ble_eq_true rfl⟩)) (fun r_1 hw_2 => ?_)
  subst hw_2
  refine lv_if_eq (tgt := 20) hx hb dM_word_9 (by decide) (fun c_3 => ?_) (fun c_3 => ?_)
  · skip
    refine lv_iconst (v := 0) hx hb dM_word_20 (by decide) ?_
    exact W.iret (v := 0) hx hb hr (fun t ht hW => ⟨⟨0, 0, rfl, by simp only [s_M_word, if_pos c_3], by rw [ht]; exact hP, va_K.moved hW.alike hK, hD⟩, hS.F ht⟩) hS.2.2 dM_word_21
  · skip
    refine lv_aload_n hx hb dM_word_12 rfl (lv_at hl 0 rfl) ?_
    refine lv_iload_n hx hb dM_word_13 rfl (lv_at hl 1 rfl) ?_
    have hPc := hP.sub (ws' := [(k0, .inr (2, [.int 0, .ref yb, .ref zb, .int a1, .int a2, .int a3, .int a4, .int a5, .int a6, .int fo])), (yb, .inl (cI, 65536, .inl y)), (zb, .inl (cI, 33, .inl z))]) [0, 1, 2] rfl
    have hKc := hK.sub (tys' := [(cI, .int)]) [0] rfl
    refine vp_callSi (va_Run.run (va_runV (As := [.int pp]) (rest := []) ⟨hx, hb, hml, hown, hts⟩ (c_M_wordIn l dC dI k0 yb zb cI y z 0 a1 a2 a3 a4 a5 a6 fo pp (mwp_4 c_3)) (cwV 1 hts gM_word_M_wordIn rfl rfl rfl (by decide +kernel) ⟨Nat.le_of_ble_eq_true rfl, Nat.le_of_ble_eq_true rfl⟩) ⟨fun a U g mk q => by obtain ⟨q0, qP, qK⟩ := q; exact ⟨q0, qP, va_K.moved (u := U) (U := U.calling g mk a) (Vm.Alike.refl U.vm) qK⟩, va_recv hKc hPc (ci := 2) (q0 := 0) rfl rfl, fun U hU hW => ⟨rfl, by rw [hU]; exact hPc, va_K.moved hW.alike hKc⟩⟩ rfl rfl hl.1 rfl (lv_room (Nat.le_of_ble_eq_true rfl)) dM_word_14 ⟨Nat.le_of_ble_eq_true rfl, Nat.le_of_ble_eq_true rfl⟩)) (fun r_4 hw_5 => ?_)
    subst hw_5
    refine lv_goto (tgt := 21) hx hb dM_word_17 (by decide) ?_
    exact W.iret (v := s_M_wordIn y pp) hx hb hr (fun t ht hW => ⟨⟨s_M_wordIn y pp, 0, rfl, by simp only [s_M_word, if_neg c_3], by rw [ht]; exact hP, va_K.moved hW.alike hK, hD⟩, hS.F ht⟩) hS.2.2 dM_word_21
