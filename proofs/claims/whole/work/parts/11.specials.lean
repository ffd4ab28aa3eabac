theorem in_k {k : Int32} (h : ¬ s_X1_isSpecial k = 0) : vp_in k 33 := by
  unfold s_X1_isSpecial at h
  rw [vp_in_iff]
  split at h
  · exact absurd rfl h
  · split at h
    · exact absurd rfl h
    · rename_i h1 h2
      rw [Int32.lt_iff_toInt_lt] at h1
      rw [Int32.le_iff_toInt_le] at h2
      have e0 : (0 : Int32).toInt = 0 := by decide
      have e1 : (33 : Int32).toInt = 33 := by decide
      omega
set_option maxRecDepth 100000 in
theorem miX1_set_X1 : ∀ w ∈ u_ws RX1 TX1 8, w ∈ wsX1_set := by decide +kernel
set_option maxRecDepth 100000 in
theorem mbX1_set_1 : (.fieldLink RX1 16 "SoftMaps" "specials" "[I" : Cond) ∈ wsX1_set := by decide +kernel
def s_X1_set (f : Nat → Int32) (k : Int32) (w : Int32) : Int32 × (Nat → Int32) :=
  if s_X1_isSpecial k = 0 then
    (0, f)
  else
    if k = 32 then
      (1, upd f k.toNatClampNeg (w &&& 7))
    else
      (1, upd f k.toNatClampNeg w)
set_option maxHeartbeats 4000000 in
set_option maxRecDepth 100000 in
theorem c_X1_set (l : Launch) (dC : Nat → ClassId) (dI : Nat → Nat → Nat) (sz : Nat) (h0 me sp : Nat) (cI : ClassId) (f : Nat → Int32) (fa fl fd cr lo so : Int32) (k : Int32) (w : Int32)  : Met l yX1_set wsX1_set ({ frames := 1, cells := 0, slots := 0, locals := 20 }) (va_Pc [.ref h0, .int k, .int w] (fun U => U.heap.size = sz ∧ va_P (dC, dI) vwCl [(h0, .inr (1, [.ref me, .ref sp, .int fa, .int fl, .int fd, .int cr, .int lo, .int so])), (sp, .inl (cI, 33, .inl f))] U.heap ∧ va_K (dC, dI) vwCl [(cI, .int)] U ∧ va_D (fun _ => True) [(h0, .inr (1, [.ref me, .ref sp, .int fa, .int fl, .int fd, .int cr, .int lo, .int so])), (sp, .inl (cI, 33, .inl f))])) (va_Qi (fun (a_ : Int32) (u : Nat → Int32) => (a_, u) = s_X1_set f k w) (fun (u : Nat → Int32) (t : State) => va_P (dC, dI) vwCl [(h0, .inr (1, [.ref me, .ref sp, .int fa, .int fl, .int fd, .int cr, .int lo, .int so])), (sp, .inl (cI, 33, .inl u))] t.heap ∧ va_K (dC, dI) vwCl [(cI, .int)] t ∧ va_D (va_A [(h0, .inr (1, [.ref me, .ref sp, .int fa, .int fl, .int fd, .int cr, .int lo, .int so])), (sp, .inl (cI, 33, .inl f))] sz) [(h0, .inr (1, [.ref me, .ref sp, .int fa, .int fl, .int fd, .int cr, .int lo, .int so])), (sp, .inl (cI, 33, .inl u))]) (va_A [(h0, .inr (1, [.ref me, .ref sp, .int fa, .int fl, .int fd, .int cr, .int lo, .int so])), (sp, .inl (cI, 33, .inl f))] sz)) 0 0 (va_A [(h0, .inr (1, [.ref me, .ref sp, .int fa, .int fl, .int fd, .int cr, .int lo, .int so])), (sp, .inl (cI, 33, .inl f))] sz) := by
  refine Met.ofW (cc := cX1_set) (maxL := 3) (ret := (some .boolean)) (by decide) rfl ?_
  intro p e s m args below meth c s₁ B hml hv
  obtain ⟨rfl, hsz, hP, hK, hD0⟩ := hv
  have hx := B.exec
  have hb := B.bytes
  have hr := B.returns
  have hts := atoms_spec (ws := wsX1_set) B.pre
  have hown : s.vm.findClass RX1 = some m.cls := findClass_of_methodNamed B.named
  have hlocks := B.notSynchronized
  subst hsz
  have hD := hD0.self (sz := s.heap.size)
  generalize hAe : va_A [(h0, .inr (1, [.ref me, .ref sp, .int fa, .int fl, .int fd, .int cr, .int lo, .int so])), (sp, .inl (cI, 33, .inl f))] s.heap.size = A at hD ⊢
  have hA : ∀ q : Nat, s.heap.size ≤ q → A q := fun q h => by rw [← hAe]; exact Or.inr h
  have hS : va_S A s.heap s.heap [] := va_S.rf
  have hP : va_P (dC, dI) vwCl [(h0, .inr (1, [.ref me, .ref sp, .int fa, .int fl, .int fd, .int cr, .int lo, .int so])), (sp, .inl (cI, 33, .inl f))] s.heap := hP
  have hl := lv_entry ([.ref h0, .int k, .int w]) (n := 3) (Nat.le_of_ble_eq_true rfl)
  rw [lg_entry_eq]
  generalize (lg_sl ([.ref h0, .int k, .int w]) ++ List.replicate (3 - (lg_sl ([.ref h0, .int k, .int w])).length) Slot.unset).toArray = ls at hl ⊢
  have hl : lv_has ls 3 [(0, .ref h0), (1, .int k), (2, .int w)] := hl
  refine lv_iload_n hx hb dX1_set_0 rfl (lv_at hl 1 rfl) ?_
  refine vp_callSi (va_Run.run (va_runS (As := [.int k]) (rest := []) ⟨hx, hb, hml, hown, hts⟩ (c_X1_isSpecial l k) (va_cwS 1 hts gX1_set_X1_isSpecial rfl rfl rfl (by decide +kernel) ⟨Nat.le_of_ble_eq_true rfl, Nat.le_of_ble_eq_true rfl⟩) ⟨fun a U g mk q => q, fun U hU hW => ⟨rfl, trivial⟩⟩ rfl rfl hl.1 rfl (lv_room (Nat.le_of_ble_eq_true rfl)) dX1_set_1 ⟨Nat.le_of_ble_eq_true rfl, Nat.le_of_ble_eq_true rfl⟩)) (fun r_1 hw_2 => ?_)
  subst hw_2
  refine lv_if_ne (tgt := 9) hx hb dX1_set_4 (by decide) (fun c_3 => ?_) (fun c_3 => ?_)
  · skip
    refine lv_aload_n hx hb dX1_set_9 rfl (lv_at hl 0 rfl) ?_
    refine va_get (D := (dC, dI)) (ci := 1) (v := .ref sp) (C := RX1) (T := TX1) (N := 8) hx hb hts miX1_set_X1 hown hK hP 0 rfl rfl 1 (by decide) (hts _ mbX1_set_1) (fun _ h9 => h9) rfl dX1_set_10 ?_
    refine lv_iload_n hx hb dX1_set_13 rfl (lv_at hl 1 rfl) ?_
    refine lv_iload_n hx hb dX1_set_14 rfl (lv_at hl 1 rfl) ?_
    refine lv_bipush (v := 32) hx hb dX1_set_15 (by decide) ?_
    refine lv_icmp_ne (tgt := 27) hx hb dX1_set_17 (by decide) (fun c_4 => ?_) (fun c_4 => ?_)
    · skip
      refine lv_iload_n hx hb dX1_set_27 rfl (lv_at hl 2 rfl) ?_
      refine va_iast hx hb hK hP hD hS 1 0 rfl rfl (in_k c_3) dX1_set_28 (fun H locs hP hD hS => ?_)
      have hP : va_P (dC, dI) vwCl [(h0, .inr (1, [.ref me, .ref sp, .int fa, .int fl, .int fd, .int cr, .int lo, .int so])), (sp, .inl (cI, 33, .inl (upd f k.toNatClampNeg w)))] H := hP
      have hD : va_D A [(h0, .inr (1, [.ref me, .ref sp, .int fa, .int fl, .int fd, .int cr, .int lo, .int so])), (sp, .inl (cI, 33, .inl (upd f k.toNatClampNeg w)))] := hD
      refine lv_iconst (v := 1) hx hb dX1_set_29 (by decide) ?_
      exact W.zret (v := 1) hx hb hr rfl (fun t ht hW => ⟨⟨1, (upd f k.toNatClampNeg w), rfl, by simp only [s_X1_set, if_neg c_3, if_neg c_4], by rw [ht]; exact hP, va_K.moved hW.alike hK, hD⟩, hS.F ht⟩) hS.2.2 dX1_set_30
    · skip
      refine lv_iload_n hx hb dX1_set_20 rfl (lv_at hl 2 rfl) ?_
      refine lv_bipush (v := 7) hx hb dX1_set_21 (by decide) ?_
      refine lv_iand hx hb dX1_set_23 ?_
      refine lv_goto (tgt := 28) hx hb dX1_set_24 (by decide) ?_
      refine va_iast hx hb hK hP hD hS 1 0 rfl rfl (in_k c_3) dX1_set_28 (fun H locs hP hD hS => ?_)
      have hP : va_P (dC, dI) vwCl [(h0, .inr (1, [.ref me, .ref sp, .int fa, .int fl, .int fd, .int cr, .int lo, .int so])), (sp, .inl (cI, 33, .inl (upd f k.toNatClampNeg (w &&& 7))))] H := hP
      have hD : va_D A [(h0, .inr (1, [.ref me, .ref sp, .int fa, .int fl, .int fd, .int cr, .int lo, .int so])), (sp, .inl (cI, 33, .inl (upd f k.toNatClampNeg (w &&& 7))))] := hD
      refine lv_iconst (v := 1) hx hb dX1_set_29 (by decide) ?_
      exact W.zret (v := 1) hx hb hr rfl (fun t ht hW => ⟨⟨1, (upd f k.toNatClampNeg (w &&& 7)), rfl, by simp only [s_X1_set, if_neg c_3, if_pos c_4], by rw [ht]; exact hP, va_K.moved hW.alike hK, hD⟩, hS.F ht⟩) hS.2.2 dX1_set_30
  · skip
    refine lv_iconst (v := 0) hx hb dX1_set_7 (by decide) ?_
    exact W.zret (v := 0) hx hb hr rfl (fun t ht hW => ⟨⟨0, f, rfl, by simp only [s_X1_set, if_pos c_3], by rw [ht]; exact hP, va_K.moved hW.alike hK, hD⟩, hS.F ht⟩) hS.2.2 dX1_set_8
set_option maxRecDepth 100000 in
theorem miX1_map_X1 : ∀ w ∈ u_ws RX1 TX1 8, w ∈ wsX1_map := by decide +kernel
set_option maxRecDepth 100000 in
theorem mbX1_map_1 : (.fieldLink RX1 16 "SoftMaps" "specials" "[I" : Cond) ∈ wsX1_map := by decide +kernel
def s_X1_map (f : Nat → Int32) (v : Int32) (fr : Int32) (ri : Int32) (dd : Int32) : Int32 × (Nat → Int32) :=
  if fr < 0 then
    ((-1), f)
  else
    if 64 ≤ fr then
      ((-1), f)
    else
      if ri < 0 then
        ((-1), f)
      else
        if ri < 16 then
          (s_X1_setOf v, upd (upd f ((s_X1_firstMatch dd) + (s_X1_setOf v)).toNatClampNeg ((v &&& (-1024)) ||| 1)) (((s_X1_firstMatch dd) + (s_X1_setOf v)) + 8).toNatClampNeg ((fr <<< ((10 : Int32) &&& 31)) ||| ri))
        else
          ((-1), f)
set_option maxHeartbeats 4000000 in
set_option maxRecDepth 100000 in
theorem c_X1_map (l : Launch) (dC : Nat → ClassId) (dI : Nat → Nat → Nat) (sz : Nat) (h0 me sp : Nat) (cI : ClassId) (f : Nat → Int32) (fa fl fd cr lo so : Int32) (v : Int32) (fr : Int32) (ri : Int32) (dd : Int32)  : Met l yX1_map wsX1_map ({ frames := 1, cells := 0, slots := 0, locals := 20 }) (va_Pc [.ref h0, .int v, .int fr, .int ri, .int dd] (fun U => U.heap.size = sz ∧ va_P (dC, dI) vwCl [(h0, .inr (1, [.ref me, .ref sp, .int fa, .int fl, .int fd, .int cr, .int lo, .int so])), (sp, .inl (cI, 33, .inl f))] U.heap ∧ va_K (dC, dI) vwCl [(cI, .int)] U ∧ va_D (fun _ => True) [(h0, .inr (1, [.ref me, .ref sp, .int fa, .int fl, .int fd, .int cr, .int lo, .int so])), (sp, .inl (cI, 33, .inl f))])) (va_Qi (fun (a_ : Int32) (u : Nat → Int32) => (a_, u) = s_X1_map f v fr ri dd) (fun (u : Nat → Int32) (t : State) => va_P (dC, dI) vwCl [(h0, .inr (1, [.ref me, .ref sp, .int fa, .int fl, .int fd, .int cr, .int lo, .int so])), (sp, .inl (cI, 33, .inl u))] t.heap ∧ va_K (dC, dI) vwCl [(cI, .int)] t ∧ va_D (va_A [(h0, .inr (1, [.ref me, .ref sp, .int fa, .int fl, .int fd, .int cr, .int lo, .int so])), (sp, .inl (cI, 33, .inl f))] sz) [(h0, .inr (1, [.ref me, .ref sp, .int fa, .int fl, .int fd, .int cr, .int lo, .int so])), (sp, .inl (cI, 33, .inl u))]) (va_A [(h0, .inr (1, [.ref me, .ref sp, .int fa, .int fl, .int fd, .int cr, .int lo, .int so])), (sp, .inl (cI, 33, .inl f))] sz)) 0 0 (va_A [(h0, .inr (1, [.ref me, .ref sp, .int fa, .int fl, .int fd, .int cr, .int lo, .int so])), (sp, .inl (cI, 33, .inl f))] sz) := by
  refine Met.ofW (cc := cX1_map) (maxL := 7) (ret := (some .int)) (by decide) rfl ?_
  intro p e s m args below meth c s₁ B hml hv
  obtain ⟨rfl, hsz, hP, hK, hD0⟩ := hv
  have hx := B.exec
  have hb := B.bytes
  have hr := B.returns
  have hts := atoms_spec (ws := wsX1_map) B.pre
  have hown : s.vm.findClass RX1 = some m.cls := findClass_of_methodNamed B.named
  have hlocks := B.notSynchronized
  subst hsz
  have hD := hD0.self (sz := s.heap.size)
  generalize hAe : va_A [(h0, .inr (1, [.ref me, .ref sp, .int fa, .int fl, .int fd, .int cr, .int lo, .int so])), (sp, .inl (cI, 33, .inl f))] s.heap.size = A at hD ⊢
  have hA : ∀ q : Nat, s.heap.size ≤ q → A q := fun q h => by rw [← hAe]; exact Or.inr h
  have hS : va_S A s.heap s.heap [] := va_S.rf
  have hP : va_P (dC, dI) vwCl [(h0, .inr (1, [.ref me, .ref sp, .int fa, .int fl, .int fd, .int cr, .int lo, .int so])), (sp, .inl (cI, 33, .inl f))] s.heap := hP
  have hl := lv_entry ([.ref h0, .int v, .int fr, .int ri, .int dd]) (n := 7) (Nat.le_of_ble_eq_true rfl)
  rw [lg_entry_eq]
  generalize (lg_sl ([.ref h0, .int v, .int fr, .int ri, .int dd]) ++ List.replicate (7 - (lg_sl ([.ref h0, .int v, .int fr, .int ri, .int dd])).length) Slot.unset).toArray = ls at hl ⊢
  have hl : lv_has ls 7 [(0, .ref h0), (1, .int v), (2, .int fr), (3, .int ri), (4, .int dd)] := hl
  refine lv_iload_n hx hb dX1_map_0 rfl (lv_at hl 2 rfl) ?_
  refine lv_if_lt (tgt := 20) hx hb dX1_map_1 (by decide) (fun c_1 => ?_) (fun c_1 => ?_)
  · skip
    refine lv_iconst (v := (-1)) hx hb dX1_map_20 (by decide) ?_
    exact W.iret (v := (-1)) hx hb hr (fun t ht hW => ⟨⟨(-1), f, rfl, by simp only [s_X1_map, if_pos c_1], by rw [ht]; exact hP, va_K.moved hW.alike hK, hD⟩, hS.F ht⟩) hS.2.2 dX1_map_21
  · skip
    refine lv_iload_n hx hb dX1_map_4 rfl (lv_at hl 2 rfl) ?_
    refine lv_bipush (v := 64) hx hb dX1_map_5 (by decide) ?_
    refine lv_icmp_ge (tgt := 20) hx hb dX1_map_7 (by decide) (fun c_2 => ?_) (fun c_2 => ?_)
    · skip
      refine lv_iconst (v := (-1)) hx hb dX1_map_20 (by decide) ?_
      exact W.iret (v := (-1)) hx hb hr (fun t ht hW => ⟨⟨(-1), f, rfl, by simp only [s_X1_map, if_neg c_1, if_pos c_2], by rw [ht]; exact hP, va_K.moved hW.alike hK, hD⟩, hS.F ht⟩) hS.2.2 dX1_map_21
    · skip
      refine lv_iload_n hx hb dX1_map_10 rfl (lv_at hl 3 rfl) ?_
      refine lv_if_lt (tgt := 20) hx hb dX1_map_11 (by decide) (fun c_3 => ?_) (fun c_3 => ?_)
      · skip
        refine lv_iconst (v := (-1)) hx hb dX1_map_20 (by decide) ?_
        exact W.iret (v := (-1)) hx hb hr (fun t ht hW => ⟨⟨(-1), f, rfl, by simp only [s_X1_map, if_neg c_1, if_neg c_2, if_pos c_3], by rw [ht]; exact hP, va_K.moved hW.alike hK, hD⟩, hS.F ht⟩) hS.2.2 dX1_map_21
      · skip
        refine lv_iload_n hx hb dX1_map_14 rfl (lv_at hl 3 rfl) ?_
        refine lv_bipush (v := 16) hx hb dX1_map_15 (by decide) ?_
        refine lv_icmp_lt (tgt := 22) hx hb dX1_map_17 (by decide) (fun c_4 => ?_) (fun c_4 => ?_)
        · skip
          refine lv_iload_n hx hb dX1_map_22 rfl (lv_at hl 1 rfl) ?_
          refine vp_callSi (va_Run.run (va_runS (As := [.int v]) (rest := []) ⟨hx, hb, hml, hown, hts⟩ (c_X1_setOf l v) (va_cwS 1 hts gX1_map_X1_setOf rfl rfl rfl (by decide +kernel) ⟨Nat.le_of_ble_eq_true rfl, Nat.le_of_ble_eq_true rfl⟩) ⟨fun a U g mk q => q, fun U hU hW => ⟨rfl, trivial⟩⟩ rfl rfl hl.1 rfl (lv_room (Nat.le_of_ble_eq_true rfl)) dX1_map_23 ⟨Nat.le_of_ble_eq_true rfl, Nat.le_of_ble_eq_true rfl⟩)) (fun r_5 hw_6 => ?_)
          subst hw_6
          refine lv_istore (lv' := [(5, .int (s_X1_setOf v)), (0, .ref h0), (1, .int v), (2, .int fr), (3, .int ri), (4, .int dd)]) hx hb dX1_map_26 hl (by decide) rfl (fun ls hl => ?_)
          refine lv_iload hx hb dX1_map_28 (lv_at hl 5 rfl) ?_
          refine vp_callSi (va_Run.run (va_runS (As := [.int dd]) (rest := []) ⟨hx, hb, hml, hown, hts⟩ (c_X1_firstMatch l dd) (va_cwS 1 hts gX1_map_X1_firstMatch rfl rfl rfl (by decide +kernel) ⟨Nat.le_of_ble_eq_true rfl, Nat.le_of_ble_eq_true rfl⟩) ⟨fun a U g mk q => q, fun U hU hW => ⟨rfl, trivial⟩⟩ rfl rfl hl.1 rfl (lv_room (Nat.le_of_ble_eq_true rfl)) dX1_map_30 ⟨Nat.le_of_ble_eq_true rfl, Nat.le_of_ble_eq_true rfl⟩)) (fun r_7 hw_8 => ?_)
          subst hw_8
          refine lv_iload hx hb dX1_map_33 (lv_at hl 0 rfl) ?_
          refine lv_iadd hx hb dX1_map_35 ?_
          refine lv_istore (lv' := [(6, .int ((s_X1_firstMatch dd) + (s_X1_setOf v))), (5, .int (s_X1_setOf v)), (0, .ref h0), (1, .int v), (2, .int fr), (3, .int ri), (4, .int dd)]) hx hb dX1_map_36 hl (by decide) rfl (fun ls hl => ?_)
          refine lv_aload_n hx hb dX1_map_38 rfl (lv_at hl 2 rfl) ?_
          refine va_get (D := (dC, dI)) (ci := 1) (v := .ref sp) (C := RX1) (T := TX1) (N := 8) hx hb hts miX1_map_X1 hown hK hP 0 rfl rfl 1 (by decide) (hts _ mbX1_map_1) (fun _ h9 => h9) rfl dX1_map_39 ?_
          refine lv_iload hx hb dX1_map_42 (lv_at hl 0 rfl) ?_
          refine lv_iload_n hx hb dX1_map_44 rfl (lv_at hl 3 rfl) ?_
          refine lv_sipush (v := (-1024)) hx hb dX1_map_45 (by decide) ?_
          refine lv_iand hx hb dX1_map_48 ?_
          refine lv_iconst (v := 1) hx hb dX1_map_49 (by decide) ?_
          refine lv_ior hx hb dX1_map_50 ?_
          refine va_iast hx hb hK hP hD hS 1 0 rfl rfl (in_m dd v) dX1_map_51 (fun H locs hP hD hS => ?_)
          have hP : va_P (dC, dI) vwCl [(h0, .inr (1, [.ref me, .ref sp, .int fa, .int fl, .int fd, .int cr, .int lo, .int so])), (sp, .inl (cI, 33, .inl (upd f ((s_X1_firstMatch dd) + (s_X1_setOf v)).toNatClampNeg ((v &&& (-1024)) ||| 1))))] H := hP
          have hD : va_D A [(h0, .inr (1, [.ref me, .ref sp, .int fa, .int fl, .int fd, .int cr, .int lo, .int so])), (sp, .inl (cI, 33, .inl (upd f ((s_X1_firstMatch dd) + (s_X1_setOf v)).toNatClampNeg ((v &&& (-1024)) ||| 1))))] := hD
          refine lv_aload_n hx hb dX1_map_52 rfl (lv_at hl 2 rfl) ?_
          refine va_get (D := (dC, dI)) (ci := 1) (v := .ref sp) (C := RX1) (T := TX1) (N := 8) hx hb hts miX1_map_X1 hown hK hP 0 rfl rfl 1 (by decide) (hts _ mbX1_map_1) (fun _ h9 => h9) rfl dX1_map_53 ?_
          refine lv_iload hx hb dX1_map_56 (lv_at hl 0 rfl) ?_
          refine lv_bipush (v := 8) hx hb dX1_map_58 (by decide) ?_
          refine lv_iadd hx hb dX1_map_60 ?_
          refine lv_iload_n hx hb dX1_map_61 rfl (lv_at hl 4 rfl) ?_
          refine lv_bipush (v := 10) hx hb dX1_map_62 (by decide) ?_
          refine lv_ishl hx hb dX1_map_64 ?_
          refine lv_iload_n hx hb dX1_map_65 rfl (lv_at hl 5 rfl) ?_
          refine lv_ior hx hb dX1_map_66 ?_
          refine va_iast hx hb hK hP hD hS 1 0 rfl rfl (in_p dd v) dX1_map_67 (fun H locs hP hD hS => ?_)
          have hP : va_P (dC, dI) vwCl [(h0, .inr (1, [.ref me, .ref sp, .int fa, .int fl, .int fd, .int cr, .int lo, .int so])), (sp, .inl (cI, 33, .inl (upd (upd f ((s_X1_firstMatch dd) + (s_X1_setOf v)).toNatClampNeg ((v &&& (-1024)) ||| 1)) (((s_X1_firstMatch dd) + (s_X1_setOf v)) + 8).toNatClampNeg ((fr <<< ((10 : Int32) &&& 31)) ||| ri))))] H := hP
          have hD : va_D A [(h0, .inr (1, [.ref me, .ref sp, .int fa, .int fl, .int fd, .int cr, .int lo, .int so])), (sp, .inl (cI, 33, .inl (upd (upd f ((s_X1_firstMatch dd) + (s_X1_setOf v)).toNatClampNeg ((v &&& (-1024)) ||| 1)) (((s_X1_firstMatch dd) + (s_X1_setOf v)) + 8).toNatClampNeg ((fr <<< ((10 : Int32) &&& 31)) ||| ri))))] := hD
          refine lv_iload hx hb dX1_map_68 (lv_at hl 1 rfl) ?_
          exact W.iret (v := s_X1_setOf v) hx hb hr (fun t ht hW => ⟨⟨s_X1_setOf v, (upd (upd f ((s_X1_firstMatch dd) + (s_X1_setOf v)).toNatClampNeg ((v &&& (-1024)) ||| 1)) (((s_X1_firstMatch dd) + (s_X1_setOf v)) + 8).toNatClampNeg ((fr <<< ((10 : Int32) &&& 31)) ||| ri)), rfl, by simp only [s_X1_map, if_neg c_1, if_neg c_2, if_neg c_3, if_pos c_4], by rw [ht]; exact hP, va_K.moved hW.alike hK, hD⟩, hS.F ht⟩) hS.2.2 dX1_map_70
        · skip
          refine lv_iconst (v := (-1)) hx hb dX1_map_20 (by decide) ?_
          exact W.iret (v := (-1)) hx hb hr (fun t ht hW => ⟨⟨(-1), f, rfl, by simp only [s_X1_map, if_neg c_1, if_neg c_2, if_neg c_3, if_neg c_4], by rw [ht]; exact hP, va_K.moved hW.alike hK, hD⟩, hS.F ht⟩) hS.2.2 dX1_map_21
set_option maxRecDepth 100000 in
theorem miX1_special_X1 : ∀ w ∈ u_ws RX1 TX1 8, w ∈ wsX1_special := by decide +kernel
set_option maxRecDepth 100000 in
theorem mbX1_special_1 : (.fieldLink RX1 16 "SoftMaps" "specials" "[I" : Cond) ∈ wsX1_special := by decide +kernel
def s_X1_special (f : Nat → Int32) (k : Int32) : Int32 :=
  if s_X1_isSpecial k = 0 then
    0
  else
    f k.toNatClampNeg
set_option maxHeartbeats 4000000 in
set_option maxRecDepth 100000 in
theorem c_X1_special (l : Launch) (dC : Nat → ClassId) (dI : Nat → Nat → Nat) (h0 me sp : Nat) (cI : ClassId) (f : Nat → Int32) (fa fl fd cr lo so : Int32) (k : Int32)  : Met l yX1_special wsX1_special ({ frames := 1, cells := 0, slots := 0, locals := 20 }) (va_Pc [.ref h0, .int k] (fun U => va_P (dC, dI) vwCl [(h0, .inr (1, [.ref me, .ref sp, .int fa, .int fl, .int fd, .int cr, .int lo, .int so])), (sp, .inl (cI, 33, .inl f))] U.heap ∧ va_K (dC, dI) vwCl [(cI, .int)] U)) (vp_Si (fun x_ => x_ = s_X1_special f k)) 0 0 (fun _ => False) := by
  refine Met.ofW (cc := cX1_special) (maxL := 2) (ret := (some .int)) (by decide) rfl ?_
  intro p e s m args below meth c s₁ B hml hv
  obtain ⟨rfl, hP, hK⟩ := hv
  have hx := B.exec
  have hb := B.bytes
  have hr := B.returns
  have hts := atoms_spec (ws := wsX1_special) B.pre
  have hown : s.vm.findClass RX1 = some m.cls := findClass_of_methodNamed B.named
  have hlocks := B.notSynchronized
  have hl := lv_entry ([.ref h0, .int k]) (n := 2) (Nat.le_of_ble_eq_true rfl)
  rw [lg_entry_eq]
  generalize (lg_sl ([.ref h0, .int k]) ++ List.replicate (2 - (lg_sl ([.ref h0, .int k])).length) Slot.unset).toArray = ls at hl ⊢
  have hl : lv_has ls 2 [(0, .ref h0), (1, .int k)] := hl
  have hP : va_P (dC, dI) vwCl [(h0, .inr (1, [.ref me, .ref sp, .int fa, .int fl, .int fd, .int cr, .int lo, .int so])), (sp, .inl (cI, 33, .inl f))] s.heap := hP
  refine lv_iload_n hx hb dX1_special_0 rfl (lv_at hl 1 rfl) ?_
  refine vp_callSi (va_Run.run (va_runS (As := [.int k]) (rest := []) ⟨hx, hb, hml, hown, hts⟩ (c_X1_isSpecial l k) (va_cwS 1 hts gX1_special_X1_isSpecial rfl rfl rfl (by decide +kernel) ⟨Nat.le_of_ble_eq_true rfl, Nat.le_of_ble_eq_true rfl⟩) ⟨fun a U g mk q => q, fun U hU hW => ⟨rfl, trivial⟩⟩ rfl rfl hl.1 rfl (lv_room (Nat.le_of_ble_eq_true rfl)) dX1_special_1 ⟨Nat.le_of_ble_eq_true rfl, Nat.le_of_ble_eq_true rfl⟩)) (fun r_1 hw_2 => ?_)
  subst hw_2
  refine lv_if_eq (tgt := 16) hx hb dX1_special_4 (by decide) (fun c_3 => ?_) (fun c_3 => ?_)
  · skip
    refine lv_iconst (v := 0) hx hb dX1_special_16 (by decide) ?_
    exact W.iret (v := 0) hx hb hr (fun t ht hW => ⟨0, rfl, by simp only [s_X1_special, if_pos c_3], ht⟩) (fun q h => by cases h) dX1_special_17
  · skip
    refine lv_aload_n hx hb dX1_special_7 rfl (lv_at hl 0 rfl) ?_
    refine va_get (D := (dC, dI)) (ci := 1) (v := .ref sp) (C := RX1) (T := TX1) (N := 8) hx hb hts miX1_special_X1 hown hK hP 0 rfl rfl 1 (by decide) (hts _ mbX1_special_1) (fun _ h9 => h9) rfl dX1_special_8 ?_
    refine lv_iload_n hx hb dX1_special_11 rfl (lv_at hl 1 rfl) ?_
    refine va_iald hx hb hK hP 1 0 rfl rfl (in_k c_3) dX1_special_12 ?_
    refine lv_goto (tgt := 17) hx hb dX1_special_13 (by decide) ?_
    exact W.iret (v := f k.toNatClampNeg) hx hb hr (fun t ht hW => ⟨f k.toNatClampNeg, rfl, by simp only [s_X1_special, if_neg c_3], ht⟩) (fun q h => by cases h) dX1_special_17
