def s_X1_isAligned (a : Int32) : Int32 :=
  if a &&& 3 = 0 then
    1
  else
    0
set_option maxHeartbeats 4000000 in
set_option maxRecDepth 100000 in
theorem c_X1_isAligned (l : Launch) (a : Int32)  : Met l yX1_isAligned wsX1_isAligned ({ frames := 0, cells := 0, slots := 0, locals := 0 }) (va_Pc [.int a] (fun U => True)) (vp_Si (fun x_ => x_ = s_X1_isAligned a)) 0 0 (fun _ => False) := by
  refine Met.ofW (cc := cX1_isAligned) (maxL := 1) (ret := (some .boolean)) (by decide) rfl ?_
  intro p e s m args below meth c s₁ B hml hv
  obtain ⟨rfl, -⟩ := hv
  have hx := B.exec
  have hb := B.bytes
  have hr := B.returns
  have hts := atoms_spec (ws := wsX1_isAligned) B.pre
  have hown : s.vm.findClass RX1 = some m.cls := findClass_of_methodNamed B.named
  have hlocks := B.notSynchronized
  have hl := lv_entry ([.int a]) (n := 1) (Nat.le_of_ble_eq_true rfl)
  rw [lg_entry_eq]
  generalize (lg_sl ([.int a]) ++ List.replicate (1 - (lg_sl ([.int a])).length) Slot.unset).toArray = ls at hl ⊢
  have hl : lv_has ls 1 [(0, .int a)] := hl
  refine lv_iload_n hx hb dX1_isAligned_0 rfl (lv_at hl 0 rfl) ?_
  refine lv_iconst (v := 3) hx hb dX1_isAligned_1 (by decide) ?_
  refine lv_iand hx hb dX1_isAligned_2 ?_
  refine lv_if_ne (tgt := 10) hx hb dX1_isAligned_3 (by decide) (fun c_1 => ?_) (fun c_1 => ?_)
  · skip
    refine lv_iconst (v := 0) hx hb dX1_isAligned_10 (by decide) ?_
    exact W.zret (v := 0) hx hb hr rfl (fun t ht hW => ⟨0, rfl, by simp only [s_X1_isAligned, if_neg c_1], ht⟩) (fun q h => by cases h) dX1_isAligned_11
  · skip
    refine lv_iconst (v := 1) hx hb dX1_isAligned_6 (by decide) ?_
    refine lv_goto (tgt := 11) hx hb dX1_isAligned_7 (by decide) ?_
    exact W.zret (v := 1) hx hb hr rfl (fun t ht hW => ⟨1, rfl, by simp only [s_X1_isAligned, if_pos c_1], ht⟩) (fun q h => by cases h) dX1_isAligned_11
theorem z_X1_isAligned (a : Int32) : s_X1_isAligned a = 0 ∨ s_X1_isAligned a = 1 := by
  unfold s_X1_isAligned
  (repeat' split) <;> first | exact Or.inl rfl | exact Or.inr rfl | skip
def s_X1_isSpecial (k : Int32) : Int32 :=
  if k < 0 then
    0
  else
    if 33 ≤ k then
      0
    else
      1
set_option maxHeartbeats 4000000 in
set_option maxRecDepth 100000 in
theorem c_X1_isSpecial (l : Launch) (k : Int32)  : Met l yX1_isSpecial wsX1_isSpecial ({ frames := 0, cells := 0, slots := 0, locals := 0 }) (va_Pc [.int k] (fun U => True)) (vp_Si (fun x_ => x_ = s_X1_isSpecial k)) 0 0 (fun _ => False) := by
  refine Met.ofW (cc := cX1_isSpecial) (maxL := 1) (ret := (some .boolean)) (by decide) rfl ?_
  intro p e s m args below meth c s₁ B hml hv
  obtain ⟨rfl, -⟩ := hv
  have hx := B.exec
  have hb := B.bytes
  have hr := B.returns
  have hts := atoms_spec (ws := wsX1_isSpecial) B.pre
  have hown : s.vm.findClass RX1 = some m.cls := findClass_of_methodNamed B.named
  have hlocks := B.notSynchronized
  have hl := lv_entry ([.int k]) (n := 1) (Nat.le_of_ble_eq_true rfl)
  rw [lg_entry_eq]
  generalize (lg_sl ([.int k]) ++ List.replicate (1 - (lg_sl ([.int k])).length) Slot.unset).toArray = ls at hl ⊢
  have hl : lv_has ls 1 [(0, .int k)] := hl
  refine lv_iload_n hx hb dX1_isSpecial_0 rfl (lv_at hl 0 rfl) ?_
  refine lv_if_lt (tgt := 14) hx hb dX1_isSpecial_1 (by decide) (fun c_1 => ?_) (fun c_1 => ?_)
  · skip
    refine lv_iconst (v := 0) hx hb dX1_isSpecial_14 (by decide) ?_
    exact W.zret (v := 0) hx hb hr rfl (fun t ht hW => ⟨0, rfl, by simp only [s_X1_isSpecial, if_pos c_1], ht⟩) (fun q h => by cases h) dX1_isSpecial_15
  · skip
    refine lv_iload_n hx hb dX1_isSpecial_4 rfl (lv_at hl 0 rfl) ?_
    refine lv_bipush (v := 33) hx hb dX1_isSpecial_5 (by decide) ?_
    refine lv_icmp_ge (tgt := 14) hx hb dX1_isSpecial_7 (by decide) (fun c_2 => ?_) (fun c_2 => ?_)
    · skip
      refine lv_iconst (v := 0) hx hb dX1_isSpecial_14 (by decide) ?_
      exact W.zret (v := 0) hx hb hr rfl (fun t ht hW => ⟨0, rfl, by simp only [s_X1_isSpecial, if_neg c_1, if_pos c_2], ht⟩) (fun q h => by cases h) dX1_isSpecial_15
    · skip
      refine lv_iconst (v := 1) hx hb dX1_isSpecial_10 (by decide) ?_
      refine lv_goto (tgt := 15) hx hb dX1_isSpecial_11 (by decide) ?_
      exact W.zret (v := 1) hx hb hr rfl (fun t ht hW => ⟨1, rfl, by simp only [s_X1_isSpecial, if_neg c_1, if_neg c_2], ht⟩) (fun q h => by cases h) dX1_isSpecial_15
theorem z_X1_isSpecial (k : Int32) : s_X1_isSpecial k = 0 ∨ s_X1_isSpecial k = 1 := by
  unfold s_X1_isSpecial
  (repeat' split) <;> first | exact Or.inl rfl | exact Or.inr rfl | skip
set_option maxRecDepth 100000 in
theorem mbX1_isWordPlace_0 : (.constant RX1 95 (65536) : Cond) ∈ wsX1_isWordPlace := by decide +kernel
def s_X1_isWordPlace (pl : Int32) : Int32 :=
  if pl < 0 then
    0
  else
    if 65536 ≤ pl then
      0
    else
      if s_X1_isAligned pl = 0 then
        0
      else
        1
set_option maxHeartbeats 4000000 in
set_option maxRecDepth 100000 in
theorem c_X1_isWordPlace (l : Launch) (pl : Int32)  : Met l yX1_isWordPlace wsX1_isWordPlace ({ frames := 1, cells := 0, slots := 0, locals := 20 }) (va_Pc [.int pl] (fun U => True)) (vp_Si (fun x_ => x_ = s_X1_isWordPlace pl)) 0 0 (fun _ => False) := by
  refine Met.ofW (cc := cX1_isWordPlace) (maxL := 1) (ret := (some .boolean)) (by decide) rfl ?_
  intro p e s m args below meth c s₁ B hml hv
  obtain ⟨rfl, -⟩ := hv
  have hx := B.exec
  have hb := B.bytes
  have hr := B.returns
  have hts := atoms_spec (ws := wsX1_isWordPlace) B.pre
  have hown : s.vm.findClass RX1 = some m.cls := findClass_of_methodNamed B.named
  have hlocks := B.notSynchronized
  have hl := lv_entry ([.int pl]) (n := 1) (Nat.le_of_ble_eq_true rfl)
  rw [lg_entry_eq]
  generalize (lg_sl ([.int pl]) ++ List.replicate (1 - (lg_sl ([.int pl])).length) Slot.unset).toArray = ls at hl ⊢
  have hl : lv_has ls 1 [(0, .int pl)] := hl
  refine lv_iload_n hx hb dX1_isWordPlace_0 rfl (lv_at hl 0 rfl) ?_
  refine lv_if_lt (tgt := 21) hx hb dX1_isWordPlace_1 (by decide) (fun c_1 => ?_) (fun c_1 => ?_)
  · skip
    refine lv_iconst (v := 0) hx hb dX1_isWordPlace_21 (by decide) ?_
    exact W.zret (v := 0) hx hb hr rfl (fun t ht hW => ⟨0, rfl, by simp only [s_X1_isWordPlace, if_pos c_1], ht⟩) (fun q h => by cases h) dX1_isWordPlace_22
  · skip
    refine lv_iload_n hx hb dX1_isWordPlace_4 rfl (lv_at hl 0 rfl) ?_
    refine lv_ldc (v := 65536) hx hb hown (hts _ mbX1_isWordPlace_0) dX1_isWordPlace_5 ?_
    refine lv_icmp_ge (tgt := 21) hx hb dX1_isWordPlace_7 (by decide) (fun c_2 => ?_) (fun c_2 => ?_)
    · skip
      refine lv_iconst (v := 0) hx hb dX1_isWordPlace_21 (by decide) ?_
      exact W.zret (v := 0) hx hb hr rfl (fun t ht hW => ⟨0, rfl, by simp only [s_X1_isWordPlace, if_neg c_1, if_pos c_2], ht⟩) (fun q h => by cases h) dX1_isWordPlace_22
    · skip
      refine lv_iload_n hx hb dX1_isWordPlace_10 rfl (lv_at hl 0 rfl) ?_
      refine vp_callSi (va_Run.run (va_runS (As := [.int pl]) (rest := []) ⟨hx, hb, hml, hown, hts⟩ (c_X1_isAligned l pl) (va_cwS 1 hts gX1_isWordPlace_X1_isAligned rfl rfl rfl (by decide +kernel) ⟨Nat.le_of_ble_eq_true rfl, Nat.le_of_ble_eq_true rfl⟩) ⟨fun a U g mk q => q, fun U hU hW => ⟨rfl, trivial⟩⟩ rfl rfl hl.1 rfl (lv_room (Nat.le_of_ble_eq_true rfl)) dX1_isWordPlace_11 ⟨Nat.le_of_ble_eq_true rfl, Nat.le_of_ble_eq_true rfl⟩)) (fun r_3 hw_4 => ?_)
      subst hw_4
      refine lv_if_eq (tgt := 21) hx hb dX1_isWordPlace_14 (by decide) (fun c_5 => ?_) (fun c_5 => ?_)
      · skip
        refine lv_iconst (v := 0) hx hb dX1_isWordPlace_21 (by decide) ?_
        exact W.zret (v := 0) hx hb hr rfl (fun t ht hW => ⟨0, rfl, by simp only [s_X1_isWordPlace, if_neg c_1, if_neg c_2, if_pos c_5], ht⟩) (fun q h => by cases h) dX1_isWordPlace_22
      · skip
        refine lv_iconst (v := 1) hx hb dX1_isWordPlace_17 (by decide) ?_
        refine lv_goto (tgt := 22) hx hb dX1_isWordPlace_18 (by decide) ?_
        exact W.zret (v := 1) hx hb hr rfl (fun t ht hW => ⟨1, rfl, by simp only [s_X1_isWordPlace, if_neg c_1, if_neg c_2, if_neg c_5], ht⟩) (fun q h => by cases h) dX1_isWordPlace_22
theorem z_X1_isWordPlace (pl : Int32) : s_X1_isWordPlace pl = 0 ∨ s_X1_isWordPlace pl = 1 := by
  unfold s_X1_isWordPlace
  (repeat' split) <;> first | exact Or.inl rfl | exact Or.inr rfl | skip
def s_X1_isOdd (x : Int32) : Int32 :=
  if x &&& 1 = 0 then
    0
  else
    1
set_option maxHeartbeats 4000000 in
set_option maxRecDepth 100000 in
theorem c_X1_isOdd (l : Launch) (x : Int32)  : Met l yX1_isOdd wsX1_isOdd ({ frames := 0, cells := 0, slots := 0, locals := 0 }) (va_Pc [.int x] (fun U => True)) (vp_Si (fun x_ => x_ = s_X1_isOdd x)) 0 0 (fun _ => False) := by
  refine Met.ofW (cc := cX1_isOdd) (maxL := 1) (ret := (some .boolean)) (by decide) rfl ?_
  intro p e s m args below meth c s₁ B hml hv
  obtain ⟨rfl, -⟩ := hv
  have hx := B.exec
  have hb := B.bytes
  have hr := B.returns
  have hts := atoms_spec (ws := wsX1_isOdd) B.pre
  have hown : s.vm.findClass RX1 = some m.cls := findClass_of_methodNamed B.named
  have hlocks := B.notSynchronized
  have hl := lv_entry ([.int x]) (n := 1) (Nat.le_of_ble_eq_true rfl)
  rw [lg_entry_eq]
  generalize (lg_sl ([.int x]) ++ List.replicate (1 - (lg_sl ([.int x])).length) Slot.unset).toArray = ls at hl ⊢
  have hl : lv_has ls 1 [(0, .int x)] := hl
  refine lv_iload_n hx hb dX1_isOdd_0 rfl (lv_at hl 0 rfl) ?_
  refine lv_iconst (v := 1) hx hb dX1_isOdd_1 (by decide) ?_
  refine lv_iand hx hb dX1_isOdd_2 ?_
  refine lv_if_eq (tgt := 10) hx hb dX1_isOdd_3 (by decide) (fun c_1 => ?_) (fun c_1 => ?_)
  · skip
    refine lv_iconst (v := 0) hx hb dX1_isOdd_10 (by decide) ?_
    exact W.zret (v := 0) hx hb hr rfl (fun t ht hW => ⟨0, rfl, by simp only [s_X1_isOdd, if_pos c_1], ht⟩) (fun q h => by cases h) dX1_isOdd_11
  · skip
    refine lv_iconst (v := 1) hx hb dX1_isOdd_6 (by decide) ?_
    refine lv_goto (tgt := 11) hx hb dX1_isOdd_7 (by decide) ?_
    exact W.zret (v := 1) hx hb hr rfl (fun t ht hW => ⟨1, rfl, by simp only [s_X1_isOdd, if_neg c_1], ht⟩) (fun q h => by cases h) dX1_isOdd_11
theorem z_X1_isOdd (x : Int32) : s_X1_isOdd x = 0 ∨ s_X1_isOdd x = 1 := by
  unfold s_X1_isOdd
  (repeat' split) <;> first | exact Or.inl rfl | exact Or.inr rfl | skip
def s_X1_setOf (v : Int32) : Int32 :=
  (ush v 10) &&& 7
set_option maxHeartbeats 4000000 in
set_option maxRecDepth 100000 in
theorem c_X1_setOf (l : Launch) (v : Int32)  : Met l yX1_setOf wsX1_setOf ({ frames := 0, cells := 0, slots := 0, locals := 0 }) (va_Pc [.int v] (fun U => True)) (vp_Si (fun x_ => x_ = s_X1_setOf v)) 0 0 (fun _ => False) := by
  refine Met.ofW (cc := cX1_setOf) (maxL := 1) (ret := (some .int)) (by decide) rfl ?_
  intro p e s m args below meth c s₁ B hml hv
  obtain ⟨rfl, -⟩ := hv
  have hx := B.exec
  have hb := B.bytes
  have hr := B.returns
  have hts := atoms_spec (ws := wsX1_setOf) B.pre
  have hown : s.vm.findClass RX1 = some m.cls := findClass_of_methodNamed B.named
  have hlocks := B.notSynchronized
  have hl := lv_entry ([.int v]) (n := 1) (Nat.le_of_ble_eq_true rfl)
  rw [lg_entry_eq]
  generalize (lg_sl ([.int v]) ++ List.replicate (1 - (lg_sl ([.int v])).length) Slot.unset).toArray = ls at hl ⊢
  have hl : lv_has ls 1 [(0, .int v)] := hl
  refine lv_iload_n hx hb dX1_setOf_0 rfl (lv_at hl 0 rfl) ?_
  refine lv_bipush (v := 10) hx hb dX1_setOf_1 (by decide) ?_
  refine lv_iushr (v := ush v 10) hx hb dX1_setOf_3 rfl ?_
  refine lv_bipush (v := 7) hx hb dX1_setOf_4 (by decide) ?_
  refine lv_iand hx hb dX1_setOf_6 ?_
  exact W.iret (v := (ush v 10) &&& 7) hx hb hr (fun t ht hW => ⟨(ush v 10) &&& 7, rfl, by first | rfl | (unfold s_X1_setOf; rfl), ht⟩) (fun q h => by cases h) dX1_setOf_7
def s_X1_firstMatch (dd : Int32) : Int32 :=
  if dd = 0 then
    0
  else
    16
set_option maxHeartbeats 4000000 in
set_option maxRecDepth 100000 in
theorem c_X1_firstMatch (l : Launch) (dd : Int32)  : Met l yX1_firstMatch wsX1_firstMatch ({ frames := 0, cells := 0, slots := 0, locals := 0 }) (va_Pc [.int dd] (fun U => True)) (vp_Si (fun x_ => x_ = s_X1_firstMatch dd)) 0 0 (fun _ => False) := by
  refine Met.ofW (cc := cX1_firstMatch) (maxL := 1) (ret := (some .int)) (by decide) rfl ?_
  intro p e s m args below meth c s₁ B hml hv
  obtain ⟨rfl, -⟩ := hv
  have hx := B.exec
  have hb := B.bytes
  have hr := B.returns
  have hts := atoms_spec (ws := wsX1_firstMatch) B.pre
  have hown : s.vm.findClass RX1 = some m.cls := findClass_of_methodNamed B.named
  have hlocks := B.notSynchronized
  have hl := lv_entry ([.int dd]) (n := 1) (Nat.le_of_ble_eq_true rfl)
  rw [lg_entry_eq]
  generalize (lg_sl ([.int dd]) ++ List.replicate (1 - (lg_sl ([.int dd])).length) Slot.unset).toArray = ls at hl ⊢
  have hl : lv_has ls 1 [(0, .int dd)] := hl
  refine lv_iload_n hx hb dX1_firstMatch_0 rfl (lv_at hl 0 rfl) ?_
  refine lv_if_eq (tgt := 9) hx hb dX1_firstMatch_1 (by decide) (fun c_1 => ?_) (fun c_1 => ?_)
  · skip
    refine lv_iconst (v := 0) hx hb dX1_firstMatch_9 (by decide) ?_
    exact W.iret (v := 0) hx hb hr (fun t ht hW => ⟨0, rfl, by simp only [s_X1_firstMatch, if_pos c_1], ht⟩) (fun q h => by cases h) dX1_firstMatch_10
  · skip
    refine lv_bipush (v := 16) hx hb dX1_firstMatch_4 (by decide) ?_
    refine lv_goto (tgt := 10) hx hb dX1_firstMatch_6 (by decide) ?_
    exact W.iret (v := 16) hx hb hr (fun t ht hW => ⟨16, rfl, by simp only [s_X1_firstMatch, if_neg c_1], ht⟩) (fun q h => by cases h) dX1_firstMatch_10
def s_X1_isOfPage (x : Int32) (v : Int32) : Int32 :=
  if s_X1_isOdd x = 0 then
    0
  else
    if ush x 10 = ush v 10 then
      1
    else
      0
set_option maxHeartbeats 4000000 in
set_option maxRecDepth 100000 in
theorem c_X1_isOfPage (l : Launch) (x : Int32) (v : Int32)  : Met l yX1_isOfPage wsX1_isOfPage ({ frames := 1, cells := 0, slots := 0, locals := 20 }) (va_Pc [.int x, .int v] (fun U => True)) (vp_Si (fun x_ => x_ = s_X1_isOfPage x v)) 0 0 (fun _ => False) := by
  refine Met.ofW (cc := cX1_isOfPage) (maxL := 2) (ret := (some .boolean)) (by decide) rfl ?_
  intro p e s m args below meth c s₁ B hml hv
  obtain ⟨rfl, -⟩ := hv
  have hx := B.exec
  have hb := B.bytes
  have hr := B.returns
  have hts := atoms_spec (ws := wsX1_isOfPage) B.pre
  have hown : s.vm.findClass RX1 = some m.cls := findClass_of_methodNamed B.named
  have hlocks := B.notSynchronized
  have hl := lv_entry ([.int x, .int v]) (n := 2) (Nat.le_of_ble_eq_true rfl)
  rw [lg_entry_eq]
  generalize (lg_sl ([.int x, .int v]) ++ List.replicate (2 - (lg_sl ([.int x, .int v])).length) Slot.unset).toArray = ls at hl ⊢
  have hl : lv_has ls 2 [(0, .int x), (1, .int v)] := hl
  refine lv_iload_n hx hb dX1_isOfPage_0 rfl (lv_at hl 0 rfl) ?_
  refine vp_callSi (va_Run.run (va_runS (As := [.int x]) (rest := []) ⟨hx, hb, hml, hown, hts⟩ (c_X1_isOdd l x) (va_cwS 1 hts gX1_isOfPage_X1_isOdd rfl rfl rfl (by decide +kernel) ⟨Nat.le_of_ble_eq_true rfl, Nat.le_of_ble_eq_true rfl⟩) ⟨fun a U g mk q => q, fun U hU hW => ⟨rfl, trivial⟩⟩ rfl rfl hl.1 rfl (lv_room (Nat.le_of_ble_eq_true rfl)) dX1_isOfPage_1 ⟨Nat.le_of_ble_eq_true rfl, Nat.le_of_ble_eq_true rfl⟩)) (fun r_1 hw_2 => ?_)
  subst hw_2
  refine lv_if_eq (tgt := 22) hx hb dX1_isOfPage_4 (by decide) (fun c_3 => ?_) (fun c_3 => ?_)
  · skip
    refine lv_iconst (v := 0) hx hb dX1_isOfPage_22 (by decide) ?_
    exact W.zret (v := 0) hx hb hr rfl (fun t ht hW => ⟨0, rfl, by simp only [s_X1_isOfPage, if_pos c_3], ht⟩) (fun q h => by cases h) dX1_isOfPage_23
  · skip
    refine lv_iload_n hx hb dX1_isOfPage_7 rfl (lv_at hl 0 rfl) ?_
    refine lv_bipush (v := 10) hx hb dX1_isOfPage_8 (by decide) ?_
    refine lv_iushr (v := ush x 10) hx hb dX1_isOfPage_10 rfl ?_
    refine lv_iload_n hx hb dX1_isOfPage_11 rfl (lv_at hl 1 rfl) ?_
    refine lv_bipush (v := 10) hx hb dX1_isOfPage_12 (by decide) ?_
    refine lv_iushr (v := ush v 10) hx hb dX1_isOfPage_14 rfl ?_
    refine lv_icmp_ne (tgt := 22) hx hb dX1_isOfPage_15 (by decide) (fun c_4 => ?_) (fun c_4 => ?_)
    · skip
      refine lv_iconst (v := 0) hx hb dX1_isOfPage_22 (by decide) ?_
      exact W.zret (v := 0) hx hb hr rfl (fun t ht hW => ⟨0, rfl, by simp only [s_X1_isOfPage, if_neg c_3, if_neg c_4], ht⟩) (fun q h => by cases h) dX1_isOfPage_23
    · skip
      refine lv_iconst (v := 1) hx hb dX1_isOfPage_18 (by decide) ?_
      refine lv_goto (tgt := 23) hx hb dX1_isOfPage_19 (by decide) ?_
      exact W.zret (v := 1) hx hb hr rfl (fun t ht hW => ⟨1, rfl, by simp only [s_X1_isOfPage, if_neg c_3, if_pos c_4], ht⟩) (fun q h => by cases h) dX1_isOfPage_23
theorem z_X1_isOfPage (x : Int32) (v : Int32) : s_X1_isOfPage x v = 0 ∨ s_X1_isOfPage x v = 1 := by
  unfold s_X1_isOfPage
  (repeat' split) <;> first | exact Or.inl rfl | exact Or.inr rfl | skip
set_option maxRecDepth 100000 in
theorem mbX1_within_0 : (.constant RX1 95 (65536) : Cond) ∈ wsX1_within := by decide +kernel
set_option maxRecDepth 100000 in
theorem mbX1_within_1 : (.constant RX1 94 (32768) : Cond) ∈ wsX1_within := by decide +kernel
def s_X1_within (pl : Int32) (how : Int32) : Int32 :=
  if how = 2 then
    if how = 0 then
      if pl < 32768 then
        (-2)
      else
        if 32768 ≤ pl then
          (-2)
        else
          pl
    else
      if pl < 32768 then
        (-2)
      else
        if 65536 ≤ pl then
          (-2)
        else
          pl
  else
    if how = 0 then
      if pl < 0 then
        (-2)
      else
        if 32768 ≤ pl then
          (-2)
        else
          pl
    else
      if pl < 0 then
        (-2)
      else
        if 65536 ≤ pl then
          (-2)
        else
          pl
set_option maxHeartbeats 4000000 in
set_option maxRecDepth 100000 in
theorem c_X1_within (l : Launch) (pl : Int32) (how : Int32)  : Met l yX1_within wsX1_within ({ frames := 0, cells := 0, slots := 0, locals := 0 }) (va_Pc [.int pl, .int how] (fun U => True)) (vp_Si (fun x_ => x_ = s_X1_within pl how)) 0 0 (fun _ => False) := by
  refine Met.ofW (cc := cX1_within) (maxL := 4) (ret := (some .int)) (by decide) rfl ?_
  intro p e s m args below meth c s₁ B hml hv
  obtain ⟨rfl, -⟩ := hv
  have hx := B.exec
  have hb := B.bytes
  have hr := B.returns
  have hts := atoms_spec (ws := wsX1_within) B.pre
  have hown : s.vm.findClass RX1 = some m.cls := findClass_of_methodNamed B.named
  have hlocks := B.notSynchronized
  have hl := lv_entry ([.int pl, .int how]) (n := 4) (Nat.le_of_ble_eq_true rfl)
  rw [lg_entry_eq]
  generalize (lg_sl ([.int pl, .int how]) ++ List.replicate (4 - (lg_sl ([.int pl, .int how])).length) Slot.unset).toArray = ls at hl ⊢
  have hl : lv_has ls 4 [(0, .int pl), (1, .int how)] := hl
  refine lv_iload_n hx hb dX1_within_0 rfl (lv_at hl 1 rfl) ?_
  refine lv_iconst (v := 2) hx hb dX1_within_1 (by decide) ?_
  refine lv_icmp_ne (tgt := 10) hx hb dX1_within_2 (by decide) (fun c_1 => ?_) (fun c_1 => ?_)
  · skip
    refine lv_iconst (v := 0) hx hb dX1_within_10 (by decide) ?_
    refine lv_istore_n (lv' := [(2, .int 0), (0, .int pl), (1, .int how)]) hx hb dX1_within_11 rfl hl (by decide) rfl (fun ls hl => ?_)
    refine lv_iload_n hx hb dX1_within_12 rfl (lv_at hl 2 rfl) ?_
    refine lv_if_ne (tgt := 21) hx hb dX1_within_13 (by decide) (fun c_2 => ?_) (fun c_2 => ?_)
    · skip
      refine lv_ldc (v := 65536) hx hb hown (hts _ mbX1_within_0) dX1_within_21 ?_
      refine lv_istore_n (lv' := [(3, .int 65536), (2, .int 0), (0, .int pl), (1, .int how)]) hx hb dX1_within_23 rfl hl (by decide) rfl (fun ls hl => ?_)
      refine lv_iload_n hx hb dX1_within_24 rfl (lv_at hl 2 rfl) ?_
      refine lv_iload_n hx hb dX1_within_25 rfl (lv_at hl 1 rfl) ?_
      refine lv_icmp_lt (tgt := 38) hx hb dX1_within_26 (by decide) (fun c_3 => ?_) (fun c_3 => ?_)
      · skip
        refine lv_bipush (v := (-2)) hx hb dX1_within_38 (by decide) ?_
        exact W.iret (v := (-2)) hx hb hr (fun t ht hW => ⟨(-2), rfl, by simp only [s_X1_within, if_neg c_1, if_neg c_2, if_pos c_3], ht⟩) (fun q h => by cases h) dX1_within_40
      · skip
        refine lv_iload_n hx hb dX1_within_29 rfl (lv_at hl 2 rfl) ?_
        refine lv_iload_n hx hb dX1_within_30 rfl (lv_at hl 0 rfl) ?_
        refine lv_icmp_ge (tgt := 38) hx hb dX1_within_31 (by decide) (fun c_4 => ?_) (fun c_4 => ?_)
        · skip
          refine lv_bipush (v := (-2)) hx hb dX1_within_38 (by decide) ?_
          exact W.iret (v := (-2)) hx hb hr (fun t ht hW => ⟨(-2), rfl, by simp only [s_X1_within, if_neg c_1, if_neg c_2, if_neg c_3, if_pos c_4], ht⟩) (fun q h => by cases h) dX1_within_40
        · skip
          refine lv_iload_n hx hb dX1_within_34 rfl (lv_at hl 2 rfl) ?_
          refine lv_goto (tgt := 40) hx hb dX1_within_35 (by decide) ?_
          exact W.iret (v := pl) hx hb hr (fun t ht hW => ⟨pl, rfl, by simp only [s_X1_within, if_neg c_1, if_neg c_2, if_neg c_3, if_neg c_4], ht⟩) (fun q h => by cases h) dX1_within_40
    · skip
      refine lv_ldc (v := 32768) hx hb hown (hts _ mbX1_within_1) dX1_within_16 ?_
      refine lv_goto (tgt := 23) hx hb dX1_within_18 (by decide) ?_
      refine lv_istore_n (lv' := [(3, .int 32768), (2, .int 0), (0, .int pl), (1, .int how)]) hx hb dX1_within_23 rfl hl (by decide) rfl (fun ls hl => ?_)
      refine lv_iload_n hx hb dX1_within_24 rfl (lv_at hl 2 rfl) ?_
      refine lv_iload_n hx hb dX1_within_25 rfl (lv_at hl 1 rfl) ?_
      refine lv_icmp_lt (tgt := 38) hx hb dX1_within_26 (by decide) (fun c_5 => ?_) (fun c_5 => ?_)
      · skip
        refine lv_bipush (v := (-2)) hx hb dX1_within_38 (by decide) ?_
        exact W.iret (v := (-2)) hx hb hr (fun t ht hW => ⟨(-2), rfl, by simp only [s_X1_within, if_neg c_1, if_pos c_2, if_pos c_5], ht⟩) (fun q h => by cases h) dX1_within_40
      · skip
        refine lv_iload_n hx hb dX1_within_29 rfl (lv_at hl 2 rfl) ?_
        refine lv_iload_n hx hb dX1_within_30 rfl (lv_at hl 0 rfl) ?_
        refine lv_icmp_ge (tgt := 38) hx hb dX1_within_31 (by decide) (fun c_6 => ?_) (fun c_6 => ?_)
        · skip
          refine lv_bipush (v := (-2)) hx hb dX1_within_38 (by decide) ?_
          exact W.iret (v := (-2)) hx hb hr (fun t ht hW => ⟨(-2), rfl, by simp only [s_X1_within, if_neg c_1, if_pos c_2, if_neg c_5, if_pos c_6], ht⟩) (fun q h => by cases h) dX1_within_40
        · skip
          refine lv_iload_n hx hb dX1_within_34 rfl (lv_at hl 2 rfl) ?_
          refine lv_goto (tgt := 40) hx hb dX1_within_35 (by decide) ?_
          exact W.iret (v := pl) hx hb hr (fun t ht hW => ⟨pl, rfl, by simp only [s_X1_within, if_neg c_1, if_pos c_2, if_neg c_5, if_neg c_6], ht⟩) (fun q h => by cases h) dX1_within_40
  · skip
    refine lv_ldc (v := 32768) hx hb hown (hts _ mbX1_within_1) dX1_within_5 ?_
    refine lv_goto (tgt := 11) hx hb dX1_within_7 (by decide) ?_
    refine lv_istore_n (lv' := [(2, .int 32768), (0, .int pl), (1, .int how)]) hx hb dX1_within_11 rfl hl (by decide) rfl (fun ls hl => ?_)
    refine lv_iload_n hx hb dX1_within_12 rfl (lv_at hl 2 rfl) ?_
    refine lv_if_ne (tgt := 21) hx hb dX1_within_13 (by decide) (fun c_7 => ?_) (fun c_7 => ?_)
    · skip
      refine lv_ldc (v := 65536) hx hb hown (hts _ mbX1_within_0) dX1_within_21 ?_
      refine lv_istore_n (lv' := [(3, .int 65536), (2, .int 32768), (0, .int pl), (1, .int how)]) hx hb dX1_within_23 rfl hl (by decide) rfl (fun ls hl => ?_)
      refine lv_iload_n hx hb dX1_within_24 rfl (lv_at hl 2 rfl) ?_
      refine lv_iload_n hx hb dX1_within_25 rfl (lv_at hl 1 rfl) ?_
      refine lv_icmp_lt (tgt := 38) hx hb dX1_within_26 (by decide) (fun c_8 => ?_) (fun c_8 => ?_)
      · skip
        refine lv_bipush (v := (-2)) hx hb dX1_within_38 (by decide) ?_
        exact W.iret (v := (-2)) hx hb hr (fun t ht hW => ⟨(-2), rfl, by simp only [s_X1_within, if_pos c_1, if_neg c_7, if_pos c_8], ht⟩) (fun q h => by cases h) dX1_within_40
      · skip
        refine lv_iload_n hx hb dX1_within_29 rfl (lv_at hl 2 rfl) ?_
        refine lv_iload_n hx hb dX1_within_30 rfl (lv_at hl 0 rfl) ?_
        refine lv_icmp_ge (tgt := 38) hx hb dX1_within_31 (by decide) (fun c_9 => ?_) (fun c_9 => ?_)
        · skip
          refine lv_bipush (v := (-2)) hx hb dX1_within_38 (by decide) ?_
          exact W.iret (v := (-2)) hx hb hr (fun t ht hW => ⟨(-2), rfl, by simp only [s_X1_within, if_pos c_1, if_neg c_7, if_neg c_8, if_pos c_9], ht⟩) (fun q h => by cases h) dX1_within_40
        · skip
          refine lv_iload_n hx hb dX1_within_34 rfl (lv_at hl 2 rfl) ?_
          refine lv_goto (tgt := 40) hx hb dX1_within_35 (by decide) ?_
          exact W.iret (v := pl) hx hb hr (fun t ht hW => ⟨pl, rfl, by simp only [s_X1_within, if_pos c_1, if_neg c_7, if_neg c_8, if_neg c_9], ht⟩) (fun q h => by cases h) dX1_within_40
    · skip
      refine lv_ldc (v := 32768) hx hb hown (hts _ mbX1_within_1) dX1_within_16 ?_
      refine lv_goto (tgt := 23) hx hb dX1_within_18 (by decide) ?_
      refine lv_istore_n (lv' := [(3, .int 32768), (2, .int 32768), (0, .int pl), (1, .int how)]) hx hb dX1_within_23 rfl hl (by decide) rfl (fun ls hl => ?_)
      refine lv_iload_n hx hb dX1_within_24 rfl (lv_at hl 2 rfl) ?_
      refine lv_iload_n hx hb dX1_within_25 rfl (lv_at hl 1 rfl) ?_
      refine lv_icmp_lt (tgt := 38) hx hb dX1_within_26 (by decide) (fun c_10 => ?_) (fun c_10 => ?_)
      · skip
        refine lv_bipush (v := (-2)) hx hb dX1_within_38 (by decide) ?_
        exact W.iret (v := (-2)) hx hb hr (fun t ht hW => ⟨(-2), rfl, by simp only [s_X1_within, if_pos c_1, if_pos c_7, if_pos c_10], ht⟩) (fun q h => by cases h) dX1_within_40
      · skip
        refine lv_iload_n hx hb dX1_within_29 rfl (lv_at hl 2 rfl) ?_
        refine lv_iload_n hx hb dX1_within_30 rfl (lv_at hl 0 rfl) ?_
        refine lv_icmp_ge (tgt := 38) hx hb dX1_within_31 (by decide) (fun c_11 => ?_) (fun c_11 => ?_)
        · skip
          refine lv_bipush (v := (-2)) hx hb dX1_within_38 (by decide) ?_
          exact W.iret (v := (-2)) hx hb hr (fun t ht hW => ⟨(-2), rfl, by simp only [s_X1_within, if_pos c_1, if_pos c_7, if_neg c_10, if_pos c_11], ht⟩) (fun q h => by cases h) dX1_within_40
        · skip
          refine lv_iload_n hx hb dX1_within_34 rfl (lv_at hl 2 rfl) ?_
          refine lv_goto (tgt := 40) hx hb dX1_within_35 (by decide) ?_
          exact W.iret (v := pl) hx hb hr (fun t ht hW => ⟨pl, rfl, by simp only [s_X1_within, if_pos c_1, if_pos c_7, if_neg c_10, if_neg c_11], ht⟩) (fun q h => by cases h) dX1_within_40
theorem so_n (v : Int32) : ∃ j : Nat, j < 8 ∧ s_X1_setOf v = nI j := by
  unfold s_X1_setOf
  exact pk_andE _ 3 (by decide)
theorem fm_n (d : Int32) : s_X1_firstMatch d = nI 0 ∨ s_X1_firstMatch d = nI 16 := by
  unfold s_X1_firstMatch
  (repeat' split) <;> first | exact Or.inl rfl | exact Or.inr rfl
theorem ix_n (d v : Int32) : ∃ j : Nat, j < 24 ∧ s_X1_firstMatch d + s_X1_setOf v = nI j := by
  obtain ⟨j, hj, e⟩ := so_n v
  rcases fm_n d with h | h
  · exact ⟨0 + j, by omega, by rw [h, e, nI_add]⟩
  · exact ⟨16 + j, by omega, by rw [h, e, nI_add]⟩
theorem in_m (d v : Int32) : vp_in (s_X1_firstMatch d + s_X1_setOf v) 33 := by
  obtain ⟨j, hj, e⟩ := ix_n d v
  exact pk_in j 33 (by omega) e
theorem in_p (d v : Int32) : vp_in (s_X1_firstMatch d + s_X1_setOf v + 8) 33 := by
  obtain ⟨j, hj, e⟩ := ix_n d v
  exact pk_in (j + 8) 33 (by omega) (by rw [e, ← nI_add]; rfl)
set_option maxRecDepth 100000 in
theorem miX1_isMapped_X1 : ∀ w ∈ u_ws RX1 TX1 8, w ∈ wsX1_isMapped := by decide +kernel
set_option maxRecDepth 100000 in
theorem mbX1_isMapped_1 : (.fieldLink RX1 16 "SoftMaps" "specials" "[I" : Cond) ∈ wsX1_isMapped := by decide +kernel
def s_X1_isMapped (f : Nat → Int32) (how : Int32) : Int32 :=
  if how = 0 then
    if (f (32 : Int32).toNatClampNeg) &&& 2 = 0 then
      0
    else
      1
  else
    if (f (32 : Int32).toNatClampNeg) &&& 4 = 0 then
      0
    else
      1
set_option maxHeartbeats 4000000 in
set_option maxRecDepth 100000 in
theorem c_X1_isMapped (l : Launch) (dC : Nat → ClassId) (dI : Nat → Nat → Nat) (h0 me sp : Nat) (cI : ClassId) (f : Nat → Int32) (fa fl fd cr lo so : Int32) (how : Int32)  : Met l yX1_isMapped wsX1_isMapped ({ frames := 0, cells := 0, slots := 0, locals := 0 }) (va_Pc [.ref h0, .int how] (fun U => va_P (dC, dI) vwCl [(h0, .inr (1, [.ref me, .ref sp, .int fa, .int fl, .int fd, .int cr, .int lo, .int so])), (sp, .inl (cI, 33, .inl f))] U.heap ∧ va_K (dC, dI) vwCl [(cI, .int)] U)) (vp_Si (fun x_ => x_ = s_X1_isMapped f how)) 0 0 (fun _ => False) := by
  refine Met.ofW (cc := cX1_isMapped) (maxL := 3) (ret := (some .boolean)) (by decide) rfl ?_
  intro p e s m args below meth c s₁ B hml hv
  obtain ⟨rfl, hP, hK⟩ := hv
  have hx := B.exec
  have hb := B.bytes
  have hr := B.returns
  have hts := atoms_spec (ws := wsX1_isMapped) B.pre
  have hown : s.vm.findClass RX1 = some m.cls := findClass_of_methodNamed B.named
  have hlocks := B.notSynchronized
  have hl := lv_entry ([.ref h0, .int how]) (n := 3) (Nat.le_of_ble_eq_true rfl)
  rw [lg_entry_eq]
  generalize (lg_sl ([.ref h0, .int how]) ++ List.replicate (3 - (lg_sl ([.ref h0, .int how])).length) Slot.unset).toArray = ls at hl ⊢
  have hl : lv_has ls 3 [(0, .ref h0), (1, .int how)] := hl
  have hP : va_P (dC, dI) vwCl [(h0, .inr (1, [.ref me, .ref sp, .int fa, .int fl, .int fd, .int cr, .int lo, .int so])), (sp, .inl (cI, 33, .inl f))] s.heap := hP
  refine lv_iload_n hx hb dX1_isMapped_0 rfl (lv_at hl 1 rfl) ?_
  refine lv_if_ne (tgt := 8) hx hb dX1_isMapped_1 (by decide) (fun c_1 => ?_) (fun c_1 => ?_)
  · skip
    refine lv_iconst (v := 4) hx hb dX1_isMapped_8 (by decide) ?_
    refine lv_istore_n (lv' := [(2, .int 4), (0, .ref h0), (1, .int how)]) hx hb dX1_isMapped_9 rfl hl (by decide) rfl (fun ls hl => ?_)
    refine lv_aload_n hx hb dX1_isMapped_10 rfl (lv_at hl 1 rfl) ?_
    refine va_get (D := (dC, dI)) (ci := 1) (v := .ref sp) (C := RX1) (T := TX1) (N := 8) hx hb hts miX1_isMapped_X1 hown hK hP 0 rfl rfl 1 (by decide) (hts _ mbX1_isMapped_1) (fun _ h9 => h9) rfl dX1_isMapped_11 ?_
    refine lv_bipush (v := 32) hx hb dX1_isMapped_14 (by decide) ?_
    refine va_iald hx hb hK hP 1 0 rfl rfl (pk_in 32 33 (by decide)) dX1_isMapped_16 ?_
    refine lv_iload_n hx hb dX1_isMapped_17 rfl (lv_at hl 0 rfl) ?_
    refine lv_iand hx hb dX1_isMapped_18 ?_
    refine lv_if_eq (tgt := 26) hx hb dX1_isMapped_19 (by decide) (fun c_2 => ?_) (fun c_2 => ?_)
    · skip
      refine lv_iconst (v := 0) hx hb dX1_isMapped_26 (by decide) ?_
      exact W.zret (v := 0) hx hb hr rfl (fun t ht hW => ⟨0, rfl, by simp only [s_X1_isMapped, if_neg c_1, if_pos c_2], ht⟩) (fun q h => by cases h) dX1_isMapped_27
    · skip
      refine lv_iconst (v := 1) hx hb dX1_isMapped_22 (by decide) ?_
      refine lv_goto (tgt := 27) hx hb dX1_isMapped_23 (by decide) ?_
      exact W.zret (v := 1) hx hb hr rfl (fun t ht hW => ⟨1, rfl, by simp only [s_X1_isMapped, if_neg c_1, if_neg c_2], ht⟩) (fun q h => by cases h) dX1_isMapped_27
  · skip
    refine lv_iconst (v := 2) hx hb dX1_isMapped_4 (by decide) ?_
    refine lv_goto (tgt := 9) hx hb dX1_isMapped_5 (by decide) ?_
    refine lv_istore_n (lv' := [(2, .int 2), (0, .ref h0), (1, .int how)]) hx hb dX1_isMapped_9 rfl hl (by decide) rfl (fun ls hl => ?_)
    refine lv_aload_n hx hb dX1_isMapped_10 rfl (lv_at hl 1 rfl) ?_
    refine va_get (D := (dC, dI)) (ci := 1) (v := .ref sp) (C := RX1) (T := TX1) (N := 8) hx hb hts miX1_isMapped_X1 hown hK hP 0 rfl rfl 1 (by decide) (hts _ mbX1_isMapped_1) (fun _ h9 => h9) rfl dX1_isMapped_11 ?_
    refine lv_bipush (v := 32) hx hb dX1_isMapped_14 (by decide) ?_
    refine va_iald hx hb hK hP 1 0 rfl rfl (pk_in 32 33 (by decide)) dX1_isMapped_16 ?_
    refine lv_iload_n hx hb dX1_isMapped_17 rfl (lv_at hl 0 rfl) ?_
    refine lv_iand hx hb dX1_isMapped_18 ?_
    refine lv_if_eq (tgt := 26) hx hb dX1_isMapped_19 (by decide) (fun c_3 => ?_) (fun c_3 => ?_)
    · skip
      refine lv_iconst (v := 0) hx hb dX1_isMapped_26 (by decide) ?_
      exact W.zret (v := 0) hx hb hr rfl (fun t ht hW => ⟨0, rfl, by simp only [s_X1_isMapped, if_pos c_1, if_pos c_3], ht⟩) (fun q h => by cases h) dX1_isMapped_27
    · skip
      refine lv_iconst (v := 1) hx hb dX1_isMapped_22 (by decide) ?_
      refine lv_goto (tgt := 27) hx hb dX1_isMapped_23 (by decide) ?_
      exact W.zret (v := 1) hx hb hr rfl (fun t ht hW => ⟨1, rfl, by simp only [s_X1_isMapped, if_pos c_1, if_neg c_3], ht⟩) (fun q h => by cases h) dX1_isMapped_27
theorem z_X1_isMapped (f : Nat → Int32) (how : Int32) : s_X1_isMapped f how = 0 ∨ s_X1_isMapped f how = 1 := by
  unfold s_X1_isMapped
  (repeat' split) <;> first | exact Or.inl rfl | exact Or.inr rfl | skip
set_option maxRecDepth 100000 in
theorem miX1_neededRight_X1 : ∀ w ∈ u_ws RX1 TX1 8, w ∈ wsX1_neededRight := by decide +kernel
set_option maxRecDepth 100000 in
theorem mbX1_neededRight_1 : (.fieldLink RX1 16 "SoftMaps" "specials" "[I" : Cond) ∈ wsX1_neededRight := by decide +kernel
def s_X1_neededRight (f : Nat → Int32) (how : Int32) : Int32 :=
  if how = 2 then
    if (f (32 : Int32).toNatClampNeg) &&& 1 = 0 then
      2
    else
      2 <<< ((2 : Int32) &&& 31)
  else
    if (f (32 : Int32).toNatClampNeg) &&& 1 = 0 then
      1
    else
      1 <<< ((2 : Int32) &&& 31)
set_option maxHeartbeats 4000000 in
set_option maxRecDepth 100000 in
theorem c_X1_neededRight (l : Launch) (dC : Nat → ClassId) (dI : Nat → Nat → Nat) (h0 me sp : Nat) (cI : ClassId) (f : Nat → Int32) (fa fl fd cr lo so : Int32) (how : Int32)  : Met l yX1_neededRight wsX1_neededRight ({ frames := 0, cells := 0, slots := 0, locals := 0 }) (va_Pc [.ref h0, .int how] (fun U => va_P (dC, dI) vwCl [(h0, .inr (1, [.ref me, .ref sp, .int fa, .int fl, .int fd, .int cr, .int lo, .int so])), (sp, .inl (cI, 33, .inl f))] U.heap ∧ va_K (dC, dI) vwCl [(cI, .int)] U)) (vp_Si (fun x_ => x_ = s_X1_neededRight f how)) 0 0 (fun _ => False) := by
  refine Met.ofW (cc := cX1_neededRight) (maxL := 4) (ret := (some .int)) (by decide) rfl ?_
  intro p e s m args below meth c s₁ B hml hv
  obtain ⟨rfl, hP, hK⟩ := hv
  have hx := B.exec
  have hb := B.bytes
  have hr := B.returns
  have hts := atoms_spec (ws := wsX1_neededRight) B.pre
  have hown : s.vm.findClass RX1 = some m.cls := findClass_of_methodNamed B.named
  have hlocks := B.notSynchronized
  have hl := lv_entry ([.ref h0, .int how]) (n := 4) (Nat.le_of_ble_eq_true rfl)
  rw [lg_entry_eq]
  generalize (lg_sl ([.ref h0, .int how]) ++ List.replicate (4 - (lg_sl ([.ref h0, .int how])).length) Slot.unset).toArray = ls at hl ⊢
  have hl : lv_has ls 4 [(0, .ref h0), (1, .int how)] := hl
  have hP : va_P (dC, dI) vwCl [(h0, .inr (1, [.ref me, .ref sp, .int fa, .int fl, .int fd, .int cr, .int lo, .int so])), (sp, .inl (cI, 33, .inl f))] s.heap := hP
  refine lv_iload_n hx hb dX1_neededRight_0 rfl (lv_at hl 1 rfl) ?_
  refine lv_iconst (v := 2) hx hb dX1_neededRight_1 (by decide) ?_
  refine lv_icmp_ne (tgt := 9) hx hb dX1_neededRight_2 (by decide) (fun c_1 => ?_) (fun c_1 => ?_)
  · skip
    refine lv_iconst (v := 1) hx hb dX1_neededRight_9 (by decide) ?_
    refine lv_istore_n (lv' := [(2, .int 1), (0, .ref h0), (1, .int how)]) hx hb dX1_neededRight_10 rfl hl (by decide) rfl (fun ls hl => ?_)
    refine lv_aload_n hx hb dX1_neededRight_11 rfl (lv_at hl 1 rfl) ?_
    refine va_get (D := (dC, dI)) (ci := 1) (v := .ref sp) (C := RX1) (T := TX1) (N := 8) hx hb hts miX1_neededRight_X1 hown hK hP 0 rfl rfl 1 (by decide) (hts _ mbX1_neededRight_1) (fun _ h9 => h9) rfl dX1_neededRight_12 ?_
    refine lv_bipush (v := 32) hx hb dX1_neededRight_15 (by decide) ?_
    refine va_iald hx hb hK hP 1 0 rfl rfl (pk_in 32 33 (by decide)) dX1_neededRight_17 ?_
    refine lv_iconst (v := 1) hx hb dX1_neededRight_18 (by decide) ?_
    refine lv_iand hx hb dX1_neededRight_19 ?_
    refine lv_if_eq (tgt := 27) hx hb dX1_neededRight_20 (by decide) (fun c_2 => ?_) (fun c_2 => ?_)
    · skip
      refine lv_iconst (v := 0) hx hb dX1_neededRight_27 (by decide) ?_
      refine lv_istore_n (lv' := [(3, .int 0), (2, .int 1), (0, .ref h0), (1, .int how)]) hx hb dX1_neededRight_28 rfl hl (by decide) rfl (fun ls hl => ?_)
      refine lv_iload_n hx hb dX1_neededRight_29 rfl (lv_at hl 0 rfl) ?_
      refine lv_if_eq (tgt := 39) hx hb dX1_neededRight_30 (by decide) (fun c_3 => ?_) (fun c_3 => ?_)
      · skip
        refine lv_iload_n hx hb dX1_neededRight_39 rfl (lv_at hl 1 rfl) ?_
        exact W.iret (v := 1) hx hb hr (fun t ht hW => ⟨1, rfl, by simp only [s_X1_neededRight, if_neg c_1, if_pos c_2], ht⟩) (fun q h => by cases h) dX1_neededRight_40
      · exact absurd c_3 (by decide)
    · skip
      refine lv_iconst (v := 1) hx hb dX1_neededRight_23 (by decide) ?_
      refine lv_goto (tgt := 28) hx hb dX1_neededRight_24 (by decide) ?_
      refine lv_istore_n (lv' := [(3, .int 1), (2, .int 1), (0, .ref h0), (1, .int how)]) hx hb dX1_neededRight_28 rfl hl (by decide) rfl (fun ls hl => ?_)
      refine lv_iload_n hx hb dX1_neededRight_29 rfl (lv_at hl 0 rfl) ?_
      refine lv_if_eq (tgt := 39) hx hb dX1_neededRight_30 (by decide) (fun c_4 => ?_) (fun c_4 => ?_)
      · exact absurd c_4 (by decide)
      · skip
        refine lv_iload_n hx hb dX1_neededRight_33 rfl (lv_at hl 1 rfl) ?_
        refine lv_iconst (v := 2) hx hb dX1_neededRight_34 (by decide) ?_
        refine lv_ishl hx hb dX1_neededRight_35 ?_
        refine lv_goto (tgt := 40) hx hb dX1_neededRight_36 (by decide) ?_
        exact W.iret (v := 1 <<< ((2 : Int32) &&& 31)) hx hb hr (fun t ht hW => ⟨1 <<< ((2 : Int32) &&& 31), rfl, by simp only [s_X1_neededRight, if_neg c_1, if_neg c_2], ht⟩) (fun q h => by cases h) dX1_neededRight_40
  · skip
    refine lv_iconst (v := 2) hx hb dX1_neededRight_5 (by decide) ?_
    refine lv_goto (tgt := 10) hx hb dX1_neededRight_6 (by decide) ?_
    refine lv_istore_n (lv' := [(2, .int 2), (0, .ref h0), (1, .int how)]) hx hb dX1_neededRight_10 rfl hl (by decide) rfl (fun ls hl => ?_)
    refine lv_aload_n hx hb dX1_neededRight_11 rfl (lv_at hl 1 rfl) ?_
    refine va_get (D := (dC, dI)) (ci := 1) (v := .ref sp) (C := RX1) (T := TX1) (N := 8) hx hb hts miX1_neededRight_X1 hown hK hP 0 rfl rfl 1 (by decide) (hts _ mbX1_neededRight_1) (fun _ h9 => h9) rfl dX1_neededRight_12 ?_
    refine lv_bipush (v := 32) hx hb dX1_neededRight_15 (by decide) ?_
    refine va_iald hx hb hK hP 1 0 rfl rfl (pk_in 32 33 (by decide)) dX1_neededRight_17 ?_
    refine lv_iconst (v := 1) hx hb dX1_neededRight_18 (by decide) ?_
    refine lv_iand hx hb dX1_neededRight_19 ?_
    refine lv_if_eq (tgt := 27) hx hb dX1_neededRight_20 (by decide) (fun c_5 => ?_) (fun c_5 => ?_)
    · skip
      refine lv_iconst (v := 0) hx hb dX1_neededRight_27 (by decide) ?_
      refine lv_istore_n (lv' := [(3, .int 0), (2, .int 2), (0, .ref h0), (1, .int how)]) hx hb dX1_neededRight_28 rfl hl (by decide) rfl (fun ls hl => ?_)
      refine lv_iload_n hx hb dX1_neededRight_29 rfl (lv_at hl 0 rfl) ?_
      refine lv_if_eq (tgt := 39) hx hb dX1_neededRight_30 (by decide) (fun c_6 => ?_) (fun c_6 => ?_)
      · skip
        refine lv_iload_n hx hb dX1_neededRight_39 rfl (lv_at hl 1 rfl) ?_
        exact W.iret (v := 2) hx hb hr (fun t ht hW => ⟨2, rfl, by simp only [s_X1_neededRight, if_pos c_1, if_pos c_5], ht⟩) (fun q h => by cases h) dX1_neededRight_40
      · exact absurd c_6 (by decide)
    · skip
      refine lv_iconst (v := 1) hx hb dX1_neededRight_23 (by decide) ?_
      refine lv_goto (tgt := 28) hx hb dX1_neededRight_24 (by decide) ?_
      refine lv_istore_n (lv' := [(3, .int 1), (2, .int 2), (0, .ref h0), (1, .int how)]) hx hb dX1_neededRight_28 rfl hl (by decide) rfl (fun ls hl => ?_)
      refine lv_iload_n hx hb dX1_neededRight_29 rfl (lv_at hl 0 rfl) ?_
      refine lv_if_eq (tgt := 39) hx hb dX1_neededRight_30 (by decide) (fun c_7 => ?_) (fun c_7 => ?_)
      · exact absurd c_7 (by decide)
      · skip
        refine lv_iload_n hx hb dX1_neededRight_33 rfl (lv_at hl 1 rfl) ?_
        refine lv_iconst (v := 2) hx hb dX1_neededRight_34 (by decide) ?_
        refine lv_ishl hx hb dX1_neededRight_35 ?_
        refine lv_goto (tgt := 40) hx hb dX1_neededRight_36 (by decide) ?_
        exact W.iret (v := 2 <<< ((2 : Int32) &&& 31)) hx hb hr (fun t ht hW => ⟨2 <<< ((2 : Int32) &&& 31), rfl, by simp only [s_X1_neededRight, if_pos c_1, if_neg c_5], ht⟩) (fun q h => by cases h) dX1_neededRight_40
set_option maxRecDepth 100000 in
theorem miX1_locate_X1 : ∀ w ∈ u_ws RX1 TX1 8, w ∈ wsX1_locate := by decide +kernel
set_option maxRecDepth 100000 in
theorem mbX1_locate_1 : (.fieldLink RX1 16 "SoftMaps" "specials" "[I" : Cond) ∈ wsX1_locate := by decide +kernel
def s_X1_locate (f : Nat → Int32) (v : Int32) (how : Int32) (wd : Int32) : Int32 :=
  if wd = 0 then
    if s_X1_isMapped f how = 0 then
      s_X1_within v how
    else
      if how = 0 then
        if s_X1_isOfPage (f ((s_X1_firstMatch 0) + (s_X1_setOf v)).toNatClampNeg) v = 0 then
          (-10)
        else
          if (f (((s_X1_firstMatch 0) + (s_X1_setOf v)) + 8).toNatClampNeg) &&& (s_X1_neededRight f how) = 0 then
            (-4)
          else
            s_X1_within (((f (((s_X1_firstMatch 0) + (s_X1_setOf v)) + 8).toNatClampNeg) &&& (-1024)) ||| (v &&& 1023)) how
      else
        if s_X1_isOfPage (f ((s_X1_firstMatch 1) + (s_X1_setOf v)).toNatClampNeg) v = 0 then
          (-9)
        else
          if (f (((s_X1_firstMatch 1) + (s_X1_setOf v)) + 8).toNatClampNeg) &&& (s_X1_neededRight f how) = 0 then
            (-3)
          else
            s_X1_within (((f (((s_X1_firstMatch 1) + (s_X1_setOf v)) + 8).toNatClampNeg) &&& (-1024)) ||| (v &&& 1023)) how
  else
    if s_X1_isAligned v = 0 then
      (-6)
    else
      if s_X1_isMapped f how = 0 then
        s_X1_within v how
      else
        if how = 0 then
          if s_X1_isOfPage (f ((s_X1_firstMatch 0) + (s_X1_setOf v)).toNatClampNeg) v = 0 then
            (-10)
          else
            if (f (((s_X1_firstMatch 0) + (s_X1_setOf v)) + 8).toNatClampNeg) &&& (s_X1_neededRight f how) = 0 then
              (-4)
            else
              s_X1_within (((f (((s_X1_firstMatch 0) + (s_X1_setOf v)) + 8).toNatClampNeg) &&& (-1024)) ||| (v &&& 1023)) how
        else
          if s_X1_isOfPage (f ((s_X1_firstMatch 1) + (s_X1_setOf v)).toNatClampNeg) v = 0 then
            (-9)
          else
            if (f (((s_X1_firstMatch 1) + (s_X1_setOf v)) + 8).toNatClampNeg) &&& (s_X1_neededRight f how) = 0 then
              (-3)
            else
              s_X1_within (((f (((s_X1_firstMatch 1) + (s_X1_setOf v)) + 8).toNatClampNeg) &&& (-1024)) ||| (v &&& 1023)) how
set_option maxHeartbeats 4000000 in
set_option maxRecDepth 100000 in
theorem c_X1_locate (l : Launch) (dC : Nat → ClassId) (dI : Nat → Nat → Nat) (h0 me sp : Nat) (cI : ClassId) (f : Nat → Int32) (fa fl fd cr lo so : Int32) (v : Int32) (how : Int32) (wd : Int32)  : Met l yX1_locate wsX1_locate ({ frames := 2, cells := 0, slots := 0, locals := 41 }) (va_Pc [.ref h0, .int v, .int how, .int wd] (fun U => va_P (dC, dI) vwCl [(h0, .inr (1, [.ref me, .ref sp, .int fa, .int fl, .int fd, .int cr, .int lo, .int so])), (sp, .inl (cI, 33, .inl f))] U.heap ∧ va_K (dC, dI) vwCl [(cI, .int)] U)) (vp_Si (fun x_ => x_ = s_X1_locate f v how wd)) 0 0 (fun _ => False) := by
  refine Met.ofW (cc := cX1_locate) (maxL := 6) (ret := (some .int)) (by decide) rfl ?_
  intro p e s m args below meth c s₁ B hml hv
  obtain ⟨rfl, hP, hK⟩ := hv
  have hx := B.exec
  have hb := B.bytes
  have hr := B.returns
  have hts := atoms_spec (ws := wsX1_locate) B.pre
  have hown : s.vm.findClass RX1 = some m.cls := findClass_of_methodNamed B.named
  have hlocks := B.notSynchronized
  have hl := lv_entry ([.ref h0, .int v, .int how, .int wd]) (n := 6) (Nat.le_of_ble_eq_true rfl)
  rw [lg_entry_eq]
  generalize (lg_sl ([.ref h0, .int v, .int how, .int wd]) ++ List.replicate (6 - (lg_sl ([.ref h0, .int v, .int how, .int wd])).length) Slot.unset).toArray = ls at hl ⊢
  have hl : lv_has ls 6 [(0, .ref h0), (1, .int v), (2, .int how), (3, .int wd)] := hl
  have hP : va_P (dC, dI) vwCl [(h0, .inr (1, [.ref me, .ref sp, .int fa, .int fl, .int fd, .int cr, .int lo, .int so])), (sp, .inl (cI, 33, .inl f))] s.heap := hP
  refine lv_iload_n hx hb dX1_locate_0 rfl (lv_at hl 3 rfl) ?_
  refine lv_if_eq (tgt := 14) hx hb dX1_locate_1 (by decide) (fun c_1 => ?_) (fun c_1 => ?_)
  · skip
    refine lv_aload_n hx hb dX1_locate_14 rfl (lv_at hl 0 rfl) ?_
    refine lv_iload_n hx hb dX1_locate_15 rfl (lv_at hl 2 rfl) ?_
    have hPc := hP.sub (ws' := [(h0, .inr (1, [.ref me, .ref sp, .int fa, .int fl, .int fd, .int cr, .int lo, .int so])), (sp, .inl (cI, 33, .inl f))]) [0, 1] rfl
    have hKc := hK.sub (tys' := [(cI, .int)]) [0] rfl
    refine vp_callSi (va_Run.run (va_runV (As := [.int how]) (rest := []) ⟨hx, hb, hml, hown, hts⟩ (c_X1_isMapped l dC dI h0 me sp cI f fa fl fd cr lo so how) (cwV 1 hts gX1_locate_X1_isMapped rfl rfl rfl (by decide +kernel) ⟨Nat.le_of_ble_eq_true rfl, Nat.le_of_ble_eq_true rfl⟩) ⟨fun a U g mk q => by obtain ⟨q0, qP, qK⟩ := q; exact ⟨q0, qP, va_K.moved (u := U) (U := U.calling g mk a) (Vm.Alike.refl U.vm) qK⟩, va_recv hKc hPc (ci := 1) (q0 := 0) rfl rfl, fun U hU hW => ⟨rfl, by rw [hU]; exact hPc, va_K.moved hW.alike hKc⟩⟩ rfl rfl hl.1 rfl (lv_room (Nat.le_of_ble_eq_true rfl)) dX1_locate_16 ⟨Nat.le_of_ble_eq_true rfl, Nat.le_of_ble_eq_true rfl⟩)) (fun r_2 hw_3 => ?_)
    subst hw_3
    refine lv_if_ne (tgt := 28) hx hb dX1_locate_19 (by decide) (fun c_4 => ?_) (fun c_4 => ?_)
    · skip
      refine lv_iload_n hx hb dX1_locate_28 rfl (lv_at hl 2 rfl) ?_
      refine lv_if_eq (tgt := 36) hx hb dX1_locate_29 (by decide) (fun c_5 => ?_) (fun c_5 => ?_)
      · skip
        refine lv_iconst (v := 0) hx hb dX1_locate_36 (by decide) ?_
        refine vp_callSi (va_Run.run (va_runS (As := [.int 0]) (rest := []) ⟨hx, hb, hml, hown, hts⟩ (c_X1_firstMatch l 0) (va_cwS 1 hts gX1_locate_X1_firstMatch rfl rfl rfl (by decide +kernel) ⟨Nat.le_of_ble_eq_true rfl, Nat.le_of_ble_eq_true rfl⟩) ⟨fun a U g mk q => q, fun U hU hW => ⟨rfl, trivial⟩⟩ rfl rfl hl.1 rfl (lv_room (Nat.le_of_ble_eq_true rfl)) dX1_locate_37 ⟨Nat.le_of_ble_eq_true rfl, Nat.le_of_ble_eq_true rfl⟩)) (fun r_6 hw_7 => ?_)
        subst hw_7
        refine lv_iload_n hx hb dX1_locate_40 rfl (lv_at hl 1 rfl) ?_
        refine vp_callSi (va_Run.run (va_runS (As := [.int v]) (rest := [.int (s_X1_firstMatch 0)]) ⟨hx, hb, hml, hown, hts⟩ (c_X1_setOf l v) (va_cwS 1 hts gX1_locate_X1_setOf rfl rfl rfl (by decide +kernel) ⟨Nat.le_of_ble_eq_true rfl, Nat.le_of_ble_eq_true rfl⟩) ⟨fun a U g mk q => q, fun U hU hW => ⟨rfl, trivial⟩⟩ rfl rfl hl.1 rfl (lv_room (Nat.le_of_ble_eq_true rfl)) dX1_locate_41 ⟨Nat.le_of_ble_eq_true rfl, Nat.le_of_ble_eq_true rfl⟩)) (fun r_8 hw_9 => ?_)
        subst hw_9
        refine lv_iadd hx hb dX1_locate_44 ?_
        refine lv_istore (lv' := [(4, .int ((s_X1_firstMatch 0) + (s_X1_setOf v))), (0, .ref h0), (1, .int v), (2, .int how), (3, .int wd)]) hx hb dX1_locate_45 hl (by decide) rfl (fun ls hl => ?_)
        refine lv_aload_n hx hb dX1_locate_47 rfl (lv_at hl 1 rfl) ?_
        refine va_get (D := (dC, dI)) (ci := 1) (v := .ref sp) (C := RX1) (T := TX1) (N := 8) hx hb hts miX1_locate_X1 hown hK hP 0 rfl rfl 1 (by decide) (hts _ mbX1_locate_1) (fun _ h9 => h9) rfl dX1_locate_48 ?_
        refine lv_iload hx hb dX1_locate_51 (lv_at hl 0 rfl) ?_
        refine va_iald hx hb hK hP 1 0 rfl rfl (in_m 0 v) dX1_locate_53 ?_
        refine lv_iload_n hx hb dX1_locate_54 rfl (lv_at hl 2 rfl) ?_
        refine vp_callSi (va_Run.run (va_runS (As := [.int (f ((s_X1_firstMatch 0) + (s_X1_setOf v)).toNatClampNeg), .int v]) (rest := []) ⟨hx, hb, hml, hown, hts⟩ (c_X1_isOfPage l (f ((s_X1_firstMatch 0) + (s_X1_setOf v)).toNatClampNeg) v) (va_cwS 2 hts gX1_locate_X1_isOfPage rfl rfl rfl (by decide +kernel) ⟨Nat.le_of_ble_eq_true rfl, Nat.le_of_ble_eq_true rfl⟩) ⟨fun a U g mk q => q, fun U hU hW => ⟨rfl, trivial⟩⟩ rfl rfl hl.1 rfl (lv_room (Nat.le_of_ble_eq_true rfl)) dX1_locate_55 ⟨Nat.le_of_ble_eq_true rfl, Nat.le_of_ble_eq_true rfl⟩)) (fun r_10 hw_11 => ?_)
        subst hw_11
        refine lv_if_ne (tgt := 73) hx hb dX1_locate_58 (by decide) (fun c_12 => ?_) (fun c_12 => ?_)
        · skip
          refine lv_aload_n hx hb dX1_locate_73 rfl (lv_at hl 1 rfl) ?_
          refine va_get (D := (dC, dI)) (ci := 1) (v := .ref sp) (C := RX1) (T := TX1) (N := 8) hx hb hts miX1_locate_X1 hown hK hP 0 rfl rfl 1 (by decide) (hts _ mbX1_locate_1) (fun _ h9 => h9) rfl dX1_locate_74 ?_
          refine lv_iload hx hb dX1_locate_77 (lv_at hl 0 rfl) ?_
          refine lv_bipush (v := 8) hx hb dX1_locate_79 (by decide) ?_
          refine lv_iadd hx hb dX1_locate_81 ?_
          refine va_iald hx hb hK hP 1 0 rfl rfl (in_p 0 v) dX1_locate_82 ?_
          refine lv_istore (lv' := [(5, .int (f (((s_X1_firstMatch 0) + (s_X1_setOf v)) + 8).toNatClampNeg)), (4, .int ((s_X1_firstMatch 0) + (s_X1_setOf v))), (0, .ref h0), (1, .int v), (2, .int how), (3, .int wd)]) hx hb dX1_locate_83 hl (by decide) rfl (fun ls hl => ?_)
          refine lv_iload hx hb dX1_locate_85 (lv_at hl 0 rfl) ?_
          refine lv_aload_n hx hb dX1_locate_87 rfl (lv_at hl 2 rfl) ?_
          refine lv_iload_n hx hb dX1_locate_88 rfl (lv_at hl 4 rfl) ?_
          have hPc := hP.sub (ws' := [(h0, .inr (1, [.ref me, .ref sp, .int fa, .int fl, .int fd, .int cr, .int lo, .int so])), (sp, .inl (cI, 33, .inl f))]) [0, 1] rfl
          have hKc := hK.sub (tys' := [(cI, .int)]) [0] rfl
          refine vp_callSi (va_Run.run (va_runV (As := [.int how]) (rest := [.int (f (((s_X1_firstMatch 0) + (s_X1_setOf v)) + 8).toNatClampNeg)]) ⟨hx, hb, hml, hown, hts⟩ (c_X1_neededRight l dC dI h0 me sp cI f fa fl fd cr lo so how) (cwV 1 hts gX1_locate_X1_neededRight rfl rfl rfl (by decide +kernel) ⟨Nat.le_of_ble_eq_true rfl, Nat.le_of_ble_eq_true rfl⟩) ⟨fun a U g mk q => by obtain ⟨q0, qP, qK⟩ := q; exact ⟨q0, qP, va_K.moved (u := U) (U := U.calling g mk a) (Vm.Alike.refl U.vm) qK⟩, va_recv hKc hPc (ci := 1) (q0 := 0) rfl rfl, fun U hU hW => ⟨rfl, by rw [hU]; exact hPc, va_K.moved hW.alike hKc⟩⟩ rfl rfl hl.1 rfl (lv_room (Nat.le_of_ble_eq_true rfl)) dX1_locate_89 ⟨Nat.le_of_ble_eq_true rfl, Nat.le_of_ble_eq_true rfl⟩)) (fun r_13 hw_14 => ?_)
          subst hw_14
          refine lv_iand hx hb dX1_locate_92 ?_
          refine lv_if_ne (tgt := 108) hx hb dX1_locate_93 (by decide) (fun c_15 => ?_) (fun c_15 => ?_)
          · skip
            refine lv_iload hx hb dX1_locate_108 (lv_at hl 0 rfl) ?_
            refine lv_sipush (v := (-1024)) hx hb dX1_locate_110 (by decide) ?_
            refine lv_iand hx hb dX1_locate_113 ?_
            refine lv_iload_n hx hb dX1_locate_114 rfl (lv_at hl 3 rfl) ?_
            refine lv_sipush (v := 1023) hx hb dX1_locate_115 (by decide) ?_
            refine lv_iand hx hb dX1_locate_118 ?_
            refine lv_ior hx hb dX1_locate_119 ?_
            refine lv_iload_n hx hb dX1_locate_120 rfl (lv_at hl 4 rfl) ?_
            refine vp_callSi (va_Run.run (va_runS (As := [.int (((f (((s_X1_firstMatch 0) + (s_X1_setOf v)) + 8).toNatClampNeg) &&& (-1024)) ||| (v &&& 1023)), .int how]) (rest := []) ⟨hx, hb, hml, hown, hts⟩ (c_X1_within l (((f (((s_X1_firstMatch 0) + (s_X1_setOf v)) + 8).toNatClampNeg) &&& (-1024)) ||| (v &&& 1023)) how) (va_cwS 2 hts gX1_locate_X1_within rfl rfl rfl (by decide +kernel) ⟨Nat.le_of_ble_eq_true rfl, Nat.le_of_ble_eq_true rfl⟩) ⟨fun a U g mk q => q, fun U hU hW => ⟨rfl, trivial⟩⟩ rfl rfl hl.1 rfl (lv_room (Nat.le_of_ble_eq_true rfl)) dX1_locate_121 ⟨Nat.le_of_ble_eq_true rfl, Nat.le_of_ble_eq_true rfl⟩)) (fun r_16 hw_17 => ?_)
            subst hw_17
            exact W.iret (v := s_X1_within (((f (((s_X1_firstMatch 0) + (s_X1_setOf v)) + 8).toNatClampNeg) &&& (-1024)) ||| (v &&& 1023)) how) hx hb hr (fun t ht hW => ⟨s_X1_within (((f (((s_X1_firstMatch 0) + (s_X1_setOf v)) + 8).toNatClampNeg) &&& (-1024)) ||| (v &&& 1023)) how, rfl, by simp only [s_X1_locate, if_pos c_1, if_neg c_4, if_pos c_5, if_neg c_12, if_neg c_15], ht⟩) (fun q h => by cases h) dX1_locate_124
          · skip
            refine lv_iload_n hx hb dX1_locate_96 rfl (lv_at hl 4 rfl) ?_
            refine lv_if_ne (tgt := 105) hx hb dX1_locate_97 (by decide) (fun c_18 => ?_) (fun c_18 => ?_)
            · exact absurd c_5 c_18
            · skip
              refine lv_bipush (v := (-4)) hx hb dX1_locate_100 (by decide) ?_
              refine lv_goto (tgt := 107) hx hb dX1_locate_102 (by decide) ?_
              exact W.iret (v := (-4)) hx hb hr (fun t ht hW => ⟨(-4), rfl, by simp only [s_X1_locate, if_pos c_1, if_neg c_4, if_pos c_5, if_neg c_12, if_pos c_15], ht⟩) (fun q h => by cases h) dX1_locate_107
        · skip
          refine lv_iload_n hx hb dX1_locate_61 rfl (lv_at hl 3 rfl) ?_
          refine lv_if_ne (tgt := 70) hx hb dX1_locate_62 (by decide) (fun c_19 => ?_) (fun c_19 => ?_)
          · exact absurd c_5 c_19
          · skip
            refine lv_bipush (v := (-10)) hx hb dX1_locate_65 (by decide) ?_
            refine lv_goto (tgt := 72) hx hb dX1_locate_67 (by decide) ?_
            exact W.iret (v := (-10)) hx hb hr (fun t ht hW => ⟨(-10), rfl, by simp only [s_X1_locate, if_pos c_1, if_neg c_4, if_pos c_5, if_pos c_12], ht⟩) (fun q h => by cases h) dX1_locate_72
      · skip
        refine lv_iconst (v := 1) hx hb dX1_locate_32 (by decide) ?_
        refine lv_goto (tgt := 37) hx hb dX1_locate_33 (by decide) ?_
        refine vp_callSi (va_Run.run (va_runS (As := [.int 1]) (rest := []) ⟨hx, hb, hml, hown, hts⟩ (c_X1_firstMatch l 1) (va_cwS 1 hts gX1_locate_X1_firstMatch rfl rfl rfl (by decide +kernel) ⟨Nat.le_of_ble_eq_true rfl, Nat.le_of_ble_eq_true rfl⟩) ⟨fun a U g mk q => q, fun U hU hW => ⟨rfl, trivial⟩⟩ rfl rfl hl.1 rfl (lv_room (Nat.le_of_ble_eq_true rfl)) dX1_locate_37 ⟨Nat.le_of_ble_eq_true rfl, Nat.le_of_ble_eq_true rfl⟩)) (fun r_20 hw_21 => ?_)
        subst hw_21
        refine lv_iload_n hx hb dX1_locate_40 rfl (lv_at hl 1 rfl) ?_
        refine vp_callSi (va_Run.run (va_runS (As := [.int v]) (rest := [.int (s_X1_firstMatch 1)]) ⟨hx, hb, hml, hown, hts⟩ (c_X1_setOf l v) (va_cwS 1 hts gX1_locate_X1_setOf rfl rfl rfl (by decide +kernel) ⟨Nat.le_of_ble_eq_true rfl, Nat.le_of_ble_eq_true rfl⟩) ⟨fun a U g mk q => q, fun U hU hW => ⟨rfl, trivial⟩⟩ rfl rfl hl.1 rfl (lv_room (Nat.le_of_ble_eq_true rfl)) dX1_locate_41 ⟨Nat.le_of_ble_eq_true rfl, Nat.le_of_ble_eq_true rfl⟩)) (fun r_22 hw_23 => ?_)
        subst hw_23
        refine lv_iadd hx hb dX1_locate_44 ?_
        refine lv_istore (lv' := [(4, .int ((s_X1_firstMatch 1) + (s_X1_setOf v))), (0, .ref h0), (1, .int v), (2, .int how), (3, .int wd)]) hx hb dX1_locate_45 hl (by decide) rfl (fun ls hl => ?_)
        refine lv_aload_n hx hb dX1_locate_47 rfl (lv_at hl 1 rfl) ?_
        refine va_get (D := (dC, dI)) (ci := 1) (v := .ref sp) (C := RX1) (T := TX1) (N := 8) hx hb hts miX1_locate_X1 hown hK hP 0 rfl rfl 1 (by decide) (hts _ mbX1_locate_1) (fun _ h9 => h9) rfl dX1_locate_48 ?_
        refine lv_iload hx hb dX1_locate_51 (lv_at hl 0 rfl) ?_
        refine va_iald hx hb hK hP 1 0 rfl rfl (in_m 1 v) dX1_locate_53 ?_
        refine lv_iload_n hx hb dX1_locate_54 rfl (lv_at hl 2 rfl) ?_
        refine vp_callSi (va_Run.run (va_runS (As := [.int (f ((s_X1_firstMatch 1) + (s_X1_setOf v)).toNatClampNeg), .int v]) (rest := []) ⟨hx, hb, hml, hown, hts⟩ (c_X1_isOfPage l (f ((s_X1_firstMatch 1) + (s_X1_setOf v)).toNatClampNeg) v) (va_cwS 2 hts gX1_locate_X1_isOfPage rfl rfl rfl (by decide +kernel) ⟨Nat.le_of_ble_eq_true rfl, Nat.le_of_ble_eq_true rfl⟩) ⟨fun a U g mk q => q, fun U hU hW => ⟨rfl, trivial⟩⟩ rfl rfl hl.1 rfl (lv_room (Nat.le_of_ble_eq_true rfl)) dX1_locate_55 ⟨Nat.le_of_ble_eq_true rfl, Nat.le_of_ble_eq_true rfl⟩)) (fun r_24 hw_25 => ?_)
        subst hw_25
        refine lv_if_ne (tgt := 73) hx hb dX1_locate_58 (by decide) (fun c_26 => ?_) (fun c_26 => ?_)
        · skip
          refine lv_aload_n hx hb dX1_locate_73 rfl (lv_at hl 1 rfl) ?_
          refine va_get (D := (dC, dI)) (ci := 1) (v := .ref sp) (C := RX1) (T := TX1) (N := 8) hx hb hts miX1_locate_X1 hown hK hP 0 rfl rfl 1 (by decide) (hts _ mbX1_locate_1) (fun _ h9 => h9) rfl dX1_locate_74 ?_
          refine lv_iload hx hb dX1_locate_77 (lv_at hl 0 rfl) ?_
          refine lv_bipush (v := 8) hx hb dX1_locate_79 (by decide) ?_
          refine lv_iadd hx hb dX1_locate_81 ?_
          refine va_iald hx hb hK hP 1 0 rfl rfl (in_p 1 v) dX1_locate_82 ?_
          refine lv_istore (lv' := [(5, .int (f (((s_X1_firstMatch 1) + (s_X1_setOf v)) + 8).toNatClampNeg)), (4, .int ((s_X1_firstMatch 1) + (s_X1_setOf v))), (0, .ref h0), (1, .int v), (2, .int how), (3, .int wd)]) hx hb dX1_locate_83 hl (by decide) rfl (fun ls hl => ?_)
          refine lv_iload hx hb dX1_locate_85 (lv_at hl 0 rfl) ?_
          refine lv_aload_n hx hb dX1_locate_87 rfl (lv_at hl 2 rfl) ?_
          refine lv_iload_n hx hb dX1_locate_88 rfl (lv_at hl 4 rfl) ?_
          have hPc := hP.sub (ws' := [(h0, .inr (1, [.ref me, .ref sp, .int fa, .int fl, .int fd, .int cr, .int lo, .int so])), (sp, .inl (cI, 33, .inl f))]) [0, 1] rfl
          have hKc := hK.sub (tys' := [(cI, .int)]) [0] rfl
          refine vp_callSi (va_Run.run (va_runV (As := [.int how]) (rest := [.int (f (((s_X1_firstMatch 1) + (s_X1_setOf v)) + 8).toNatClampNeg)]) ⟨hx, hb, hml, hown, hts⟩ (c_X1_neededRight l dC dI h0 me sp cI f fa fl fd cr lo so how) (cwV 1 hts gX1_locate_X1_neededRight rfl rfl rfl (by decide +kernel) ⟨Nat.le_of_ble_eq_true rfl, Nat.le_of_ble_eq_true rfl⟩) ⟨fun a U g mk q => by obtain ⟨q0, qP, qK⟩ := q; exact ⟨q0, qP, va_K.moved (u := U) (U := U.calling g mk a) (Vm.Alike.refl U.vm) qK⟩, va_recv hKc hPc (ci := 1) (q0 := 0) rfl rfl, fun U hU hW => ⟨rfl, by rw [hU]; exact hPc, va_K.moved hW.alike hKc⟩⟩ rfl rfl hl.1 rfl (lv_room (Nat.le_of_ble_eq_true rfl)) dX1_locate_89 ⟨Nat.le_of_ble_eq_true rfl, Nat.le_of_ble_eq_true rfl⟩)) (fun r_27 hw_28 => ?_)
          subst hw_28
          refine lv_iand hx hb dX1_locate_92 ?_
          refine lv_if_ne (tgt := 108) hx hb dX1_locate_93 (by decide) (fun c_29 => ?_) (fun c_29 => ?_)
          · skip
            refine lv_iload hx hb dX1_locate_108 (lv_at hl 0 rfl) ?_
            refine lv_sipush (v := (-1024)) hx hb dX1_locate_110 (by decide) ?_
            refine lv_iand hx hb dX1_locate_113 ?_
            refine lv_iload_n hx hb dX1_locate_114 rfl (lv_at hl 3 rfl) ?_
            refine lv_sipush (v := 1023) hx hb dX1_locate_115 (by decide) ?_
            refine lv_iand hx hb dX1_locate_118 ?_
            refine lv_ior hx hb dX1_locate_119 ?_
            refine lv_iload_n hx hb dX1_locate_120 rfl (lv_at hl 4 rfl) ?_
            refine vp_callSi (va_Run.run (va_runS (As := [.int (((f (((s_X1_firstMatch 1) + (s_X1_setOf v)) + 8).toNatClampNeg) &&& (-1024)) ||| (v &&& 1023)), .int how]) (rest := []) ⟨hx, hb, hml, hown, hts⟩ (c_X1_within l (((f (((s_X1_firstMatch 1) + (s_X1_setOf v)) + 8).toNatClampNeg) &&& (-1024)) ||| (v &&& 1023)) how) (va_cwS 2 hts gX1_locate_X1_within rfl rfl rfl (by decide +kernel) ⟨Nat.le_of_ble_eq_true rfl, Nat.le_of_ble_eq_true rfl⟩) ⟨fun a U g mk q => q, fun U hU hW => ⟨rfl, trivial⟩⟩ rfl rfl hl.1 rfl (lv_room (Nat.le_of_ble_eq_true rfl)) dX1_locate_121 ⟨Nat.le_of_ble_eq_true rfl, Nat.le_of_ble_eq_true rfl⟩)) (fun r_30 hw_31 => ?_)
            subst hw_31
            exact W.iret (v := s_X1_within (((f (((s_X1_firstMatch 1) + (s_X1_setOf v)) + 8).toNatClampNeg) &&& (-1024)) ||| (v &&& 1023)) how) hx hb hr (fun t ht hW => ⟨s_X1_within (((f (((s_X1_firstMatch 1) + (s_X1_setOf v)) + 8).toNatClampNeg) &&& (-1024)) ||| (v &&& 1023)) how, rfl, by simp only [s_X1_locate, if_pos c_1, if_neg c_4, if_neg c_5, if_neg c_26, if_neg c_29], ht⟩) (fun q h => by cases h) dX1_locate_124
          · skip
            refine lv_iload_n hx hb dX1_locate_96 rfl (lv_at hl 4 rfl) ?_
            refine lv_if_ne (tgt := 105) hx hb dX1_locate_97 (by decide) (fun c_32 => ?_) (fun c_32 => ?_)
            · skip
              refine lv_bipush (v := (-3)) hx hb dX1_locate_105 (by decide) ?_
              exact W.iret (v := (-3)) hx hb hr (fun t ht hW => ⟨(-3), rfl, by simp only [s_X1_locate, if_pos c_1, if_neg c_4, if_neg c_5, if_neg c_26, if_pos c_29], ht⟩) (fun q h => by cases h) dX1_locate_107
            · exact absurd c_32 c_5
        · skip
          refine lv_iload_n hx hb dX1_locate_61 rfl (lv_at hl 3 rfl) ?_
          refine lv_if_ne (tgt := 70) hx hb dX1_locate_62 (by decide) (fun c_33 => ?_) (fun c_33 => ?_)
          · skip
            refine lv_bipush (v := (-9)) hx hb dX1_locate_70 (by decide) ?_
            exact W.iret (v := (-9)) hx hb hr (fun t ht hW => ⟨(-9), rfl, by simp only [s_X1_locate, if_pos c_1, if_neg c_4, if_neg c_5, if_pos c_26], ht⟩) (fun q h => by cases h) dX1_locate_72
          · exact absurd c_33 c_5
    · skip
      refine lv_iload_n hx hb dX1_locate_22 rfl (lv_at hl 1 rfl) ?_
      refine lv_iload_n hx hb dX1_locate_23 rfl (lv_at hl 2 rfl) ?_
      refine vp_callSi (va_Run.run (va_runS (As := [.int v, .int how]) (rest := []) ⟨hx, hb, hml, hown, hts⟩ (c_X1_within l v how) (va_cwS 2 hts gX1_locate_X1_within rfl rfl rfl (by decide +kernel) ⟨Nat.le_of_ble_eq_true rfl, Nat.le_of_ble_eq_true rfl⟩) ⟨fun a U g mk q => q, fun U hU hW => ⟨rfl, trivial⟩⟩ rfl rfl hl.1 rfl (lv_room (Nat.le_of_ble_eq_true rfl)) dX1_locate_24 ⟨Nat.le_of_ble_eq_true rfl, Nat.le_of_ble_eq_true rfl⟩)) (fun r_34 hw_35 => ?_)
      subst hw_35
      exact W.iret (v := s_X1_within v how) hx hb hr (fun t ht hW => ⟨s_X1_within v how, rfl, by simp only [s_X1_locate, if_pos c_1, if_pos c_4], ht⟩) (fun q h => by cases h) dX1_locate_27
  · skip
    refine lv_iload_n hx hb dX1_locate_4 rfl (lv_at hl 1 rfl) ?_
    refine vp_callSi (va_Run.run (va_runS (As := [.int v]) (rest := []) ⟨hx, hb, hml, hown, hts⟩ (c_X1_isAligned l v) (va_cwS 1 hts gX1_locate_X1_isAligned rfl rfl rfl (by decide +kernel) ⟨Nat.le_of_ble_eq_true rfl, Nat.le_of_ble_eq_true rfl⟩) ⟨fun a U g mk q => q, fun U hU hW => ⟨rfl, trivial⟩⟩ rfl rfl hl.1 rfl (lv_room (Nat.le_of_ble_eq_true rfl)) dX1_locate_5 ⟨Nat.le_of_ble_eq_true rfl, Nat.le_of_ble_eq_true rfl⟩)) (fun r_36 hw_37 => ?_)
    subst hw_37
    refine lv_if_ne (tgt := 14) hx hb dX1_locate_8 (by decide) (fun c_38 => ?_) (fun c_38 => ?_)
    · skip
      refine lv_aload_n hx hb dX1_locate_14 rfl (lv_at hl 0 rfl) ?_
      refine lv_iload_n hx hb dX1_locate_15 rfl (lv_at hl 2 rfl) ?_
      have hPc := hP.sub (ws' := [(h0, .inr (1, [.ref me, .ref sp, .int fa, .int fl, .int fd, .int cr, .int lo, .int so])), (sp, .inl (cI, 33, .inl f))]) [0, 1] rfl
      have hKc := hK.sub (tys' := [(cI, .int)]) [0] rfl
      refine vp_callSi (va_Run.run (va_runV (As := [.int how]) (rest := []) ⟨hx, hb, hml, hown, hts⟩ (c_X1_isMapped l dC dI h0 me sp cI f fa fl fd cr lo so how) (cwV 1 hts gX1_locate_X1_isMapped rfl rfl rfl (by decide +kernel) ⟨Nat.le_of_ble_eq_true rfl, Nat.le_of_ble_eq_true rfl⟩) ⟨fun a U g mk q => by obtain ⟨q0, qP, qK⟩ := q; exact ⟨q0, qP, va_K.moved (u := U) (U := U.calling g mk a) (Vm.Alike.refl U.vm) qK⟩, va_recv hKc hPc (ci := 1) (q0 := 0) rfl rfl, fun U hU hW => ⟨rfl, by rw [hU]; exact hPc, va_K.moved hW.alike hKc⟩⟩ rfl rfl hl.1 rfl (lv_room (Nat.le_of_ble_eq_true rfl)) dX1_locate_16 ⟨Nat.le_of_ble_eq_true rfl, Nat.le_of_ble_eq_true rfl⟩)) (fun r_39 hw_40 => ?_)
      subst hw_40
      refine lv_if_ne (tgt := 28) hx hb dX1_locate_19 (by decide) (fun c_41 => ?_) (fun c_41 => ?_)
      · skip
        refine lv_iload_n hx hb dX1_locate_28 rfl (lv_at hl 2 rfl) ?_
        refine lv_if_eq (tgt := 36) hx hb dX1_locate_29 (by decide) (fun c_42 => ?_) (fun c_42 => ?_)
        · skip
          refine lv_iconst (v := 0) hx hb dX1_locate_36 (by decide) ?_
          refine vp_callSi (va_Run.run (va_runS (As := [.int 0]) (rest := []) ⟨hx, hb, hml, hown, hts⟩ (c_X1_firstMatch l 0) (va_cwS 1 hts gX1_locate_X1_firstMatch rfl rfl rfl (by decide +kernel) ⟨Nat.le_of_ble_eq_true rfl, Nat.le_of_ble_eq_true rfl⟩) ⟨fun a U g mk q => q, fun U hU hW => ⟨rfl, trivial⟩⟩ rfl rfl hl.1 rfl (lv_room (Nat.le_of_ble_eq_true rfl)) dX1_locate_37 ⟨Nat.le_of_ble_eq_true rfl, Nat.le_of_ble_eq_true rfl⟩)) (fun r_43 hw_44 => ?_)
          subst hw_44
          refine lv_iload_n hx hb dX1_locate_40 rfl (lv_at hl 1 rfl) ?_
          refine vp_callSi (va_Run.run (va_runS (As := [.int v]) (rest := [.int (s_X1_firstMatch 0)]) ⟨hx, hb, hml, hown, hts⟩ (c_X1_setOf l v) (va_cwS 1 hts gX1_locate_X1_setOf rfl rfl rfl (by decide +kernel) ⟨Nat.le_of_ble_eq_true rfl, Nat.le_of_ble_eq_true rfl⟩) ⟨fun a U g mk q => q, fun U hU hW => ⟨rfl, trivial⟩⟩ rfl rfl hl.1 rfl (lv_room (Nat.le_of_ble_eq_true rfl)) dX1_locate_41 ⟨Nat.le_of_ble_eq_true rfl, Nat.le_of_ble_eq_true rfl⟩)) (fun r_45 hw_46 => ?_)
          subst hw_46
          refine lv_iadd hx hb dX1_locate_44 ?_
          refine lv_istore (lv' := [(4, .int ((s_X1_firstMatch 0) + (s_X1_setOf v))), (0, .ref h0), (1, .int v), (2, .int how), (3, .int wd)]) hx hb dX1_locate_45 hl (by decide) rfl (fun ls hl => ?_)
          refine lv_aload_n hx hb dX1_locate_47 rfl (lv_at hl 1 rfl) ?_
          refine va_get (D := (dC, dI)) (ci := 1) (v := .ref sp) (C := RX1) (T := TX1) (N := 8) hx hb hts miX1_locate_X1 hown hK hP 0 rfl rfl 1 (by decide) (hts _ mbX1_locate_1) (fun _ h9 => h9) rfl dX1_locate_48 ?_
          refine lv_iload hx hb dX1_locate_51 (lv_at hl 0 rfl) ?_
          refine va_iald hx hb hK hP 1 0 rfl rfl (in_m 0 v) dX1_locate_53 ?_
          refine lv_iload_n hx hb dX1_locate_54 rfl (lv_at hl 2 rfl) ?_
          refine vp_callSi (va_Run.run (va_runS (As := [.int (f ((s_X1_firstMatch 0) + (s_X1_setOf v)).toNatClampNeg), .int v]) (rest := []) ⟨hx, hb, hml, hown, hts⟩ (c_X1_isOfPage l (f ((s_X1_firstMatch 0) + (s_X1_setOf v)).toNatClampNeg) v) (va_cwS 2 hts gX1_locate_X1_isOfPage rfl rfl rfl (by decide +kernel) ⟨Nat.le_of_ble_eq_true rfl, Nat.le_of_ble_eq_true rfl⟩) ⟨fun a U g mk q => q, fun U hU hW => ⟨rfl, trivial⟩⟩ rfl rfl hl.1 rfl (lv_room (Nat.le_of_ble_eq_true rfl)) dX1_locate_55 ⟨Nat.le_of_ble_eq_true rfl, Nat.le_of_ble_eq_true rfl⟩)) (fun r_47 hw_48 => ?_)
          subst hw_48
          refine lv_if_ne (tgt := 73) hx hb dX1_locate_58 (by decide) (fun c_49 => ?_) (fun c_49 => ?_)
          · skip
            refine lv_aload_n hx hb dX1_locate_73 rfl (lv_at hl 1 rfl) ?_
            refine va_get (D := (dC, dI)) (ci := 1) (v := .ref sp) (C := RX1) (T := TX1) (N := 8) hx hb hts miX1_locate_X1 hown hK hP 0 rfl rfl 1 (by decide) (hts _ mbX1_locate_1) (fun _ h9 => h9) rfl dX1_locate_74 ?_
            refine lv_iload hx hb dX1_locate_77 (lv_at hl 0 rfl) ?_
            refine lv_bipush (v := 8) hx hb dX1_locate_79 (by decide) ?_
            refine lv_iadd hx hb dX1_locate_81 ?_
            refine va_iald hx hb hK hP 1 0 rfl rfl (in_p 0 v) dX1_locate_82 ?_
            refine lv_istore (lv' := [(5, .int (f (((s_X1_firstMatch 0) + (s_X1_setOf v)) + 8).toNatClampNeg)), (4, .int ((s_X1_firstMatch 0) + (s_X1_setOf v))), (0, .ref h0), (1, .int v), (2, .int how), (3, .int wd)]) hx hb dX1_locate_83 hl (by decide) rfl (fun ls hl => ?_)
            refine lv_iload hx hb dX1_locate_85 (lv_at hl 0 rfl) ?_
            refine lv_aload_n hx hb dX1_locate_87 rfl (lv_at hl 2 rfl) ?_
            refine lv_iload_n hx hb dX1_locate_88 rfl (lv_at hl 4 rfl) ?_
            have hPc := hP.sub (ws' := [(h0, .inr (1, [.ref me, .ref sp, .int fa, .int fl, .int fd, .int cr, .int lo, .int so])), (sp, .inl (cI, 33, .inl f))]) [0, 1] rfl
            have hKc := hK.sub (tys' := [(cI, .int)]) [0] rfl
            refine vp_callSi (va_Run.run (va_runV (As := [.int how]) (rest := [.int (f (((s_X1_firstMatch 0) + (s_X1_setOf v)) + 8).toNatClampNeg)]) ⟨hx, hb, hml, hown, hts⟩ (c_X1_neededRight l dC dI h0 me sp cI f fa fl fd cr lo so how) (cwV 1 hts gX1_locate_X1_neededRight rfl rfl rfl (by decide +kernel) ⟨Nat.le_of_ble_eq_true rfl, Nat.le_of_ble_eq_true rfl⟩) ⟨fun a U g mk q => by obtain ⟨q0, qP, qK⟩ := q; exact ⟨q0, qP, va_K.moved (u := U) (U := U.calling g mk a) (Vm.Alike.refl U.vm) qK⟩, va_recv hKc hPc (ci := 1) (q0 := 0) rfl rfl, fun U hU hW => ⟨rfl, by rw [hU]; exact hPc, va_K.moved hW.alike hKc⟩⟩ rfl rfl hl.1 rfl (lv_room (Nat.le_of_ble_eq_true rfl)) dX1_locate_89 ⟨Nat.le_of_ble_eq_true rfl, Nat.le_of_ble_eq_true rfl⟩)) (fun r_50 hw_51 => ?_)
            subst hw_51
            refine lv_iand hx hb dX1_locate_92 ?_
            refine lv_if_ne (tgt := 108) hx hb dX1_locate_93 (by decide) (fun c_52 => ?_) (fun c_52 => ?_)
            · skip
              refine lv_iload hx hb dX1_locate_108 (lv_at hl 0 rfl) ?_
              refine lv_sipush (v := (-1024)) hx hb dX1_locate_110 (by decide) ?_
              refine lv_iand hx hb dX1_locate_113 ?_
              refine lv_iload_n hx hb dX1_locate_114 rfl (lv_at hl 3 rfl) ?_
              refine lv_sipush (v := 1023) hx hb dX1_locate_115 (by decide) ?_
              refine lv_iand hx hb dX1_locate_118 ?_
              refine lv_ior hx hb dX1_locate_119 ?_
              refine lv_iload_n hx hb dX1_locate_120 rfl (lv_at hl 4 rfl) ?_
              refine vp_callSi (va_Run.run (va_runS (As := [.int (((f (((s_X1_firstMatch 0) + (s_X1_setOf v)) + 8).toNatClampNeg) &&& (-1024)) ||| (v &&& 1023)), .int how]) (rest := []) ⟨hx, hb, hml, hown, hts⟩ (c_X1_within l (((f (((s_X1_firstMatch 0) + (s_X1_setOf v)) + 8).toNatClampNeg) &&& (-1024)) ||| (v &&& 1023)) how) (va_cwS 2 hts gX1_locate_X1_within rfl rfl rfl (by decide +kernel) ⟨Nat.le_of_ble_eq_true rfl, Nat.le_of_ble_eq_true rfl⟩) ⟨fun a U g mk q => q, fun U hU hW => ⟨rfl, trivial⟩⟩ rfl rfl hl.1 rfl (lv_room (Nat.le_of_ble_eq_true rfl)) dX1_locate_121 ⟨Nat.le_of_ble_eq_true rfl, Nat.le_of_ble_eq_true rfl⟩)) (fun r_53 hw_54 => ?_)
              subst hw_54
              exact W.iret (v := s_X1_within (((f (((s_X1_firstMatch 0) + (s_X1_setOf v)) + 8).toNatClampNeg) &&& (-1024)) ||| (v &&& 1023)) how) hx hb hr (fun t ht hW => ⟨s_X1_within (((f (((s_X1_firstMatch 0) + (s_X1_setOf v)) + 8).toNatClampNeg) &&& (-1024)) ||| (v &&& 1023)) how, rfl, by simp only [s_X1_locate, if_neg c_1, if_neg c_38, if_neg c_41, if_pos c_42, if_neg c_49, if_neg c_52], ht⟩) (fun q h => by cases h) dX1_locate_124
            · skip
              refine lv_iload_n hx hb dX1_locate_96 rfl (lv_at hl 4 rfl) ?_
              refine lv_if_ne (tgt := 105) hx hb dX1_locate_97 (by decide) (fun c_55 => ?_) (fun c_55 => ?_)
              · exact absurd c_42 c_55
              · skip
                refine lv_bipush (v := (-4)) hx hb dX1_locate_100 (by decide) ?_
                refine lv_goto (tgt := 107) hx hb dX1_locate_102 (by decide) ?_
                exact W.iret (v := (-4)) hx hb hr (fun t ht hW => ⟨(-4), rfl, by simp only [s_X1_locate, if_neg c_1, if_neg c_38, if_neg c_41, if_pos c_42, if_neg c_49, if_pos c_52], ht⟩) (fun q h => by cases h) dX1_locate_107
          · skip
            refine lv_iload_n hx hb dX1_locate_61 rfl (lv_at hl 3 rfl) ?_
            refine lv_if_ne (tgt := 70) hx hb dX1_locate_62 (by decide) (fun c_56 => ?_) (fun c_56 => ?_)
            · exact absurd c_42 c_56
            · skip
              refine lv_bipush (v := (-10)) hx hb dX1_locate_65 (by decide) ?_
              refine lv_goto (tgt := 72) hx hb dX1_locate_67 (by decide) ?_
              exact W.iret (v := (-10)) hx hb hr (fun t ht hW => ⟨(-10), rfl, by simp only [s_X1_locate, if_neg c_1, if_neg c_38, if_neg c_41, if_pos c_42, if_pos c_49], ht⟩) (fun q h => by cases h) dX1_locate_72
        · skip
          refine lv_iconst (v := 1) hx hb dX1_locate_32 (by decide) ?_
          refine lv_goto (tgt := 37) hx hb dX1_locate_33 (by decide) ?_
          refine vp_callSi (va_Run.run (va_runS (As := [.int 1]) (rest := []) ⟨hx, hb, hml, hown, hts⟩ (c_X1_firstMatch l 1) (va_cwS 1 hts gX1_locate_X1_firstMatch rfl rfl rfl (by decide +kernel) ⟨Nat.le_of_ble_eq_true rfl, Nat.le_of_ble_eq_true rfl⟩) ⟨fun a U g mk q => q, fun U hU hW => ⟨rfl, trivial⟩⟩ rfl rfl hl.1 rfl (lv_room (Nat.le_of_ble_eq_true rfl)) dX1_locate_37 ⟨Nat.le_of_ble_eq_true rfl, Nat.le_of_ble_eq_true rfl⟩)) (fun r_57 hw_58 => ?_)
          subst hw_58
          refine lv_iload_n hx hb dX1_locate_40 rfl (lv_at hl 1 rfl) ?_
          refine vp_callSi (va_Run.run (va_runS (As := [.int v]) (rest := [.int (s_X1_firstMatch 1)]) ⟨hx, hb, hml, hown, hts⟩ (c_X1_setOf l v) (va_cwS 1 hts gX1_locate_X1_setOf rfl rfl rfl (by decide +kernel) ⟨Nat.le_of_ble_eq_true rfl, Nat.le_of_ble_eq_true rfl⟩) ⟨fun a U g mk q => q, fun U hU hW => ⟨rfl, trivial⟩⟩ rfl rfl hl.1 rfl (lv_room (Nat.le_of_ble_eq_true rfl)) dX1_locate_41 ⟨Nat.le_of_ble_eq_true rfl, Nat.le_of_ble_eq_true rfl⟩)) (fun r_59 hw_60 => ?_)
          subst hw_60
          refine lv_iadd hx hb dX1_locate_44 ?_
          refine lv_istore (lv' := [(4, .int ((s_X1_firstMatch 1) + (s_X1_setOf v))), (0, .ref h0), (1, .int v), (2, .int how), (3, .int wd)]) hx hb dX1_locate_45 hl (by decide) rfl (fun ls hl => ?_)
          refine lv_aload_n hx hb dX1_locate_47 rfl (lv_at hl 1 rfl) ?_
          refine va_get (D := (dC, dI)) (ci := 1) (v := .ref sp) (C := RX1) (T := TX1) (N := 8) hx hb hts miX1_locate_X1 hown hK hP 0 rfl rfl 1 (by decide) (hts _ mbX1_locate_1) (fun _ h9 => h9) rfl dX1_locate_48 ?_
          refine lv_iload hx hb dX1_locate_51 (lv_at hl 0 rfl) ?_
          refine va_iald hx hb hK hP 1 0 rfl rfl (in_m 1 v) dX1_locate_53 ?_
          refine lv_iload_n hx hb dX1_locate_54 rfl (lv_at hl 2 rfl) ?_
          refine vp_callSi (va_Run.run (va_runS (As := [.int (f ((s_X1_firstMatch 1) + (s_X1_setOf v)).toNatClampNeg), .int v]) (rest := []) ⟨hx, hb, hml, hown, hts⟩ (c_X1_isOfPage l (f ((s_X1_firstMatch 1) + (s_X1_setOf v)).toNatClampNeg) v) (va_cwS 2 hts gX1_locate_X1_isOfPage rfl rfl rfl (by decide +kernel) ⟨Nat.le_of_ble_eq_true rfl, Nat.le_of_ble_eq_true rfl⟩) ⟨fun a U g mk q => q, fun U hU hW => ⟨rfl, trivial⟩⟩ rfl rfl hl.1 rfl (lv_room (Nat.le_of_ble_eq_true rfl)) dX1_locate_55 ⟨Nat.le_of_ble_eq_true rfl, Nat.le_of_ble_eq_true rfl⟩)) (fun r_61 hw_62 => ?_)
          subst hw_62
          refine lv_if_ne (tgt := 73) hx hb dX1_locate_58 (by decide) (fun c_63 => ?_) (fun c_63 => ?_)
          · skip
            refine lv_aload_n hx hb dX1_locate_73 rfl (lv_at hl 1 rfl) ?_
            refine va_get (D := (dC, dI)) (ci := 1) (v := .ref sp) (C := RX1) (T := TX1) (N := 8) hx hb hts miX1_locate_X1 hown hK hP 0 rfl rfl 1 (by decide) (hts _ mbX1_locate_1) (fun _ h9 => h9) rfl dX1_locate_74 ?_
            refine lv_iload hx hb dX1_locate_77 (lv_at hl 0 rfl) ?_
            refine lv_bipush (v := 8) hx hb dX1_locate_79 (by decide) ?_
            refine lv_iadd hx hb dX1_locate_81 ?_
            refine va_iald hx hb hK hP 1 0 rfl rfl (in_p 1 v) dX1_locate_82 ?_
            refine lv_istore (lv' := [(5, .int (f (((s_X1_firstMatch 1) + (s_X1_setOf v)) + 8).toNatClampNeg)), (4, .int ((s_X1_firstMatch 1) + (s_X1_setOf v))), (0, .ref h0), (1, .int v), (2, .int how), (3, .int wd)]) hx hb dX1_locate_83 hl (by decide) rfl (fun ls hl => ?_)
            refine lv_iload hx hb dX1_locate_85 (lv_at hl 0 rfl) ?_
            refine lv_aload_n hx hb dX1_locate_87 rfl (lv_at hl 2 rfl) ?_
            refine lv_iload_n hx hb dX1_locate_88 rfl (lv_at hl 4 rfl) ?_
            have hPc := hP.sub (ws' := [(h0, .inr (1, [.ref me, .ref sp, .int fa, .int fl, .int fd, .int cr, .int lo, .int so])), (sp, .inl (cI, 33, .inl f))]) [0, 1] rfl
            have hKc := hK.sub (tys' := [(cI, .int)]) [0] rfl
            refine vp_callSi (va_Run.run (va_runV (As := [.int how]) (rest := [.int (f (((s_X1_firstMatch 1) + (s_X1_setOf v)) + 8).toNatClampNeg)]) ⟨hx, hb, hml, hown, hts⟩ (c_X1_neededRight l dC dI h0 me sp cI f fa fl fd cr lo so how) (cwV 1 hts gX1_locate_X1_neededRight rfl rfl rfl (by decide +kernel) ⟨Nat.le_of_ble_eq_true rfl, Nat.le_of_ble_eq_true rfl⟩) ⟨fun a U g mk q => by obtain ⟨q0, qP, qK⟩ := q; exact ⟨q0, qP, va_K.moved (u := U) (U := U.calling g mk a) (Vm.Alike.refl U.vm) qK⟩, va_recv hKc hPc (ci := 1) (q0 := 0) rfl rfl, fun U hU hW => ⟨rfl, by rw [hU]; exact hPc, va_K.moved hW.alike hKc⟩⟩ rfl rfl hl.1 rfl (lv_room (Nat.le_of_ble_eq_true rfl)) dX1_locate_89 ⟨Nat.le_of_ble_eq_true rfl, Nat.le_of_ble_eq_true rfl⟩)) (fun r_64 hw_65 => ?_)
            subst hw_65
            refine lv_iand hx hb dX1_locate_92 ?_
            refine lv_if_ne (tgt := 108) hx hb dX1_locate_93 (by decide) (fun c_66 => ?_) (fun c_66 => ?_)
            · skip
              refine lv_iload hx hb dX1_locate_108 (lv_at hl 0 rfl) ?_
              refine lv_sipush (v := (-1024)) hx hb dX1_locate_110 (by decide) ?_
              refine lv_iand hx hb dX1_locate_113 ?_
              refine lv_iload_n hx hb dX1_locate_114 rfl (lv_at hl 3 rfl) ?_
              refine lv_sipush (v := 1023) hx hb dX1_locate_115 (by decide) ?_
              refine lv_iand hx hb dX1_locate_118 ?_
              refine lv_ior hx hb dX1_locate_119 ?_
              refine lv_iload_n hx hb dX1_locate_120 rfl (lv_at hl 4 rfl) ?_
              refine vp_callSi (va_Run.run (va_runS (As := [.int (((f (((s_X1_firstMatch 1) + (s_X1_setOf v)) + 8).toNatClampNeg) &&& (-1024)) ||| (v &&& 1023)), .int how]) (rest := []) ⟨hx, hb, hml, hown, hts⟩ (c_X1_within l (((f (((s_X1_firstMatch 1) + (s_X1_setOf v)) + 8).toNatClampNeg) &&& (-1024)) ||| (v &&& 1023)) how) (va_cwS 2 hts gX1_locate_X1_within rfl rfl rfl (by decide +kernel) ⟨Nat.le_of_ble_eq_true rfl, Nat.le_of_ble_eq_true rfl⟩) ⟨fun a U g mk q => q, fun U hU hW => ⟨rfl, trivial⟩⟩ rfl rfl hl.1 rfl (lv_room (Nat.le_of_ble_eq_true rfl)) dX1_locate_121 ⟨Nat.le_of_ble_eq_true rfl, Nat.le_of_ble_eq_true rfl⟩)) (fun r_67 hw_68 => ?_)
              subst hw_68
              exact W.iret (v := s_X1_within (((f (((s_X1_firstMatch 1) + (s_X1_setOf v)) + 8).toNatClampNeg) &&& (-1024)) ||| (v &&& 1023)) how) hx hb hr (fun t ht hW => ⟨s_X1_within (((f (((s_X1_firstMatch 1) + (s_X1_setOf v)) + 8).toNatClampNeg) &&& (-1024)) ||| (v &&& 1023)) how, rfl, by simp only [s_X1_locate, if_neg c_1, if_neg c_38, if_neg c_41, if_neg c_42, if_neg c_63, if_neg c_66], ht⟩) (fun q h => by cases h) dX1_locate_124
            · skip
              refine lv_iload_n hx hb dX1_locate_96 rfl (lv_at hl 4 rfl) ?_
              refine lv_if_ne (tgt := 105) hx hb dX1_locate_97 (by decide) (fun c_69 => ?_) (fun c_69 => ?_)
              · skip
                refine lv_bipush (v := (-3)) hx hb dX1_locate_105 (by decide) ?_
                exact W.iret (v := (-3)) hx hb hr (fun t ht hW => ⟨(-3), rfl, by simp only [s_X1_locate, if_neg c_1, if_neg c_38, if_neg c_41, if_neg c_42, if_neg c_63, if_pos c_66], ht⟩) (fun q h => by cases h) dX1_locate_107
              · exact absurd c_69 c_42
          · skip
            refine lv_iload_n hx hb dX1_locate_61 rfl (lv_at hl 3 rfl) ?_
            refine lv_if_ne (tgt := 70) hx hb dX1_locate_62 (by decide) (fun c_70 => ?_) (fun c_70 => ?_)
            · skip
              refine lv_bipush (v := (-9)) hx hb dX1_locate_70 (by decide) ?_
              exact W.iret (v := (-9)) hx hb hr (fun t ht hW => ⟨(-9), rfl, by simp only [s_X1_locate, if_neg c_1, if_neg c_38, if_neg c_41, if_neg c_42, if_pos c_63], ht⟩) (fun q h => by cases h) dX1_locate_72
            · exact absurd c_70 c_42
      · skip
        refine lv_iload_n hx hb dX1_locate_22 rfl (lv_at hl 1 rfl) ?_
        refine lv_iload_n hx hb dX1_locate_23 rfl (lv_at hl 2 rfl) ?_
        refine vp_callSi (va_Run.run (va_runS (As := [.int v, .int how]) (rest := []) ⟨hx, hb, hml, hown, hts⟩ (c_X1_within l v how) (va_cwS 2 hts gX1_locate_X1_within rfl rfl rfl (by decide +kernel) ⟨Nat.le_of_ble_eq_true rfl, Nat.le_of_ble_eq_true rfl⟩) ⟨fun a U g mk q => q, fun U hU hW => ⟨rfl, trivial⟩⟩ rfl rfl hl.1 rfl (lv_room (Nat.le_of_ble_eq_true rfl)) dX1_locate_24 ⟨Nat.le_of_ble_eq_true rfl, Nat.le_of_ble_eq_true rfl⟩)) (fun r_71 hw_72 => ?_)
        subst hw_72
        exact W.iret (v := s_X1_within v how) hx hb hr (fun t ht hW => ⟨s_X1_within v how, rfl, by simp only [s_X1_locate, if_neg c_1, if_neg c_38, if_pos c_41], ht⟩) (fun q h => by cases h) dX1_locate_27
    · skip
      refine lv_bipush (v := (-6)) hx hb dX1_locate_11 (by decide) ?_
      exact W.iret (v := (-6)) hx hb hr (fun t ht hW => ⟨(-6), rfl, by simp only [s_X1_locate, if_neg c_1, if_pos c_38], ht⟩) (fun q h => by cases h) dX1_locate_13
