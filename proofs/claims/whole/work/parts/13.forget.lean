set_option maxRecDepth 100000 in
theorem miX1_forget_X1 : ∀ w ∈ u_ws RX1 TX1 8, w ∈ wsX1_forget := by decide +kernel
set_option maxRecDepth 100000 in
theorem mbX1_forget_1 : (.fieldLink RX1 16 "SoftMaps" "specials" "[I" : Cond) ∈ wsX1_forget := by decide +kernel
set_option maxHeartbeats 4000000 in
set_option maxRecDepth 100000 in
theorem lp_X1_forget {p : Program} {l : Launch} {e : Env} {s : State} {m : MethodId} {args : Array Value} {below : List Frame} {meth : Method} {c : Code} {Q : State → Prop} (hx : p.tables.exec = Jvm.exec) (hb : c.code = cX1_forget) (hml : c.maxLocals = 5) (hown : s.vm.findClass RX1 = some m.cls) (hts : ∀ w ∈ wsX1_forget, w.before args s = true) (dC : Nat → ClassId) (dI : Nat → Nat → Nat) (h0 me sp : Nat) (cI : ClassId) (f : Nat → Int32) (fa fl fd cr lo so : Int32) (dd be : Int32) {A : Nat → Prop} (hA : ∀ q : Nat, s.heap.size ≤ q → A q) (hK : va_K (dC, dI) vwCl [(cI, .int)] s) : ∀ (n i : Nat) (H : Heap) (locs : List Loc) (ls : Array Slot), i + n = 8 → va_P (dC, dI) vwCl [(h0, .inr (1, [.ref me, .ref sp, .int fa, .int fl, .int fd, .int cr, .int lo, .int so])), (sp, .inl (cI, 33, .inl (s_clr f (s_X1_firstMatch dd) i)))] H → va_D A [(h0, .inr (1, [.ref me, .ref sp, .int fa, .int fl, .int fd, .int cr, .int lo, .int so])), (sp, .inl (cI, 33, .inl (s_clr f (s_X1_firstMatch dd) i)))] → va_S A s.heap H locs → lv_has ls 5 [(4, .int (nI i)), (3, .int (s_X1_firstMatch dd)), (2, .int be), (0, .ref h0), (1, .int dd)] → (∀ (H : Heap) (locs : List Loc) (ls : Array Slot), va_P (dC, dI) vwCl [(h0, .inr (1, [.ref me, .ref sp, .int fa, .int fl, .int fd, .int cr, .int lo, .int so])), (sp, .inl (cI, 33, .inl (s_clr f (s_X1_firstMatch dd) 8)))] H → va_D A [(h0, .inr (1, [.ref me, .ref sp, .int fa, .int fl, .int fd, .int cr, .int lo, .int so])), (sp, .inl (cI, 33, .inl (s_clr f (s_X1_firstMatch dd) 8)))] → va_S A s.heap H locs → lv_has ls 5 [(4, .int (nI 8)), (3, .int (s_X1_firstMatch dd)), (2, .int be), (0, .ref h0), (1, .int dd)] → W p l e ({ frames := 2, cells := 0, slots := 0, locals := 44 }) s m args below meth c H locs 0 0 Q (F0 m 41 ls [])) → W p l e ({ frames := 2, cells := 0, slots := 0, locals := 44 }) s m args below meth c H locs 0 0 Q (F0 m 14 ls []) := by
  intro n
  induction n with
  | zero =>
    intro i H locs ls hin hP hD hS hl kk
    obtain rfl : i = 8 := by omega
    refine lv_iload hx hb dX1_forget_14 (lv_at hl 0 rfl) ?_
    refine lv_bipush (v := 8) hx hb dX1_forget_16 (by decide) ?_
    refine lv_icmp_ge (tgt := 41) hx hb dX1_forget_18 (by decide) (fun cz => ?_) (fun cz => ?_)
    · exact kk H locs ls hP hD hS hl
    · exact absurd (nI_le (Nat.le_refl 8) (by decide)) cz
  | succ n ih =>
    intro i H locs ls hin hP hD hS hl kk
    have hi : i < 8 := by omega
    refine lv_iload hx hb dX1_forget_14 (lv_at hl 0 rfl) ?_
    refine lv_bipush (v := 8) hx hb dX1_forget_16 (by decide) ?_
    refine lv_icmp_ge (tgt := 41) hx hb dX1_forget_18 (by decide) (fun cz => ?_) (fun cz => ?_)
    · exact absurd cz (nI_ge hi (by decide))
    · skip
      refine lv_aload_n hx hb dX1_forget_21 rfl (lv_at hl 3 rfl) ?_
      refine va_get (D := (dC, dI)) (ci := 1) (v := .ref sp) (C := RX1) (T := TX1) (N := 8) hx hb hts miX1_forget_X1 hown hK hP 0 rfl rfl 1 (by decide) (hts _ mbX1_forget_1) (fun _ h9 => h9) rfl dX1_forget_22 ?_
      refine lv_iload_n hx hb dX1_forget_25 rfl (lv_at hl 1 rfl) ?_
      refine lv_iload hx hb dX1_forget_26 (lv_at hl 0 rfl) ?_
      refine lv_iadd hx hb dX1_forget_28 ?_
      refine lv_dup2_11 hx hb dX1_forget_29 rfl rfl ?_
      refine va_iald hx hb hK hP 1 0 rfl rfl (in_c dd hi) dX1_forget_30 ?_
      refine lv_bipush (v := (-2)) hx hb dX1_forget_31 (by decide) ?_
      refine lv_iand hx hb dX1_forget_33 ?_
      refine va_iast hx hb hK hP hD hS 1 0 rfl rfl (in_c dd hi) dX1_forget_34 (fun H locs hP hD hS => ?_)
      have hP : va_P (dC, dI) vwCl [(h0, .inr (1, [.ref me, .ref sp, .int fa, .int fl, .int fd, .int cr, .int lo, .int so])), (sp, .inl (cI, 33, .inl (upd (s_clr f (s_X1_firstMatch dd) i) ((s_X1_firstMatch dd) + (nI i)).toNatClampNeg (((s_clr f (s_X1_firstMatch dd) i) ((s_X1_firstMatch dd) + (nI i)).toNatClampNeg) &&& (-2)))))] H := hP
      have hD : va_D A [(h0, .inr (1, [.ref me, .ref sp, .int fa, .int fl, .int fd, .int cr, .int lo, .int so])), (sp, .inl (cI, 33, .inl (upd (s_clr f (s_X1_firstMatch dd) i) ((s_X1_firstMatch dd) + (nI i)).toNatClampNeg (((s_clr f (s_X1_firstMatch dd) i) ((s_X1_firstMatch dd) + (nI i)).toNatClampNeg) &&& (-2)))))] := hD
      refine lv_iinc (v := (nI i) + 1) (lv' := [(4, .int ((nI i) + 1)), (3, .int (s_X1_firstMatch dd)), (2, .int be), (0, .ref h0), (1, .int dd)]) hx hb dX1_forget_35 hl (k := 0) rfl rfl (by decide) rfl (fun ls hl => ?_)
      refine lv_goto (tgt := 14) hx hb dX1_forget_38 (by decide) ?_
      exact ih (i + 1) H locs ls (by omega) hP hD hS (by rw [← nI_1 i]; exact lv_sub hl [0, 1, 2, 3, 4] rfl) kk
def s_X1_forget (f : Nat → Int32) (dd : Int32) : Int32 × (Nat → Int32) :=
  (s_X1_countMatches f dd, s_clr f (s_X1_firstMatch dd) 8)
set_option maxHeartbeats 4000000 in
set_option maxRecDepth 100000 in
theorem c_X1_forget (l : Launch) (dC : Nat → ClassId) (dI : Nat → Nat → Nat) (sz : Nat) (h0 me sp : Nat) (cI : ClassId) (f : Nat → Int32) (fa fl fd cr lo so : Int32) (dd : Int32)  : Met l yX1_forget wsX1_forget ({ frames := 2, cells := 0, slots := 0, locals := 44 }) (va_Pc [.ref h0, .int dd] (fun U => U.heap.size = sz ∧ va_P (dC, dI) vwCl [(h0, .inr (1, [.ref me, .ref sp, .int fa, .int fl, .int fd, .int cr, .int lo, .int so])), (sp, .inl (cI, 33, .inl f))] U.heap ∧ va_K (dC, dI) vwCl [(cI, .int)] U ∧ va_D (fun _ => True) [(h0, .inr (1, [.ref me, .ref sp, .int fa, .int fl, .int fd, .int cr, .int lo, .int so])), (sp, .inl (cI, 33, .inl f))])) (va_Qi (fun (a_ : Int32) (u : Nat → Int32) => (a_, u) = s_X1_forget f dd) (fun (u : Nat → Int32) (t : State) => va_P (dC, dI) vwCl [(h0, .inr (1, [.ref me, .ref sp, .int fa, .int fl, .int fd, .int cr, .int lo, .int so])), (sp, .inl (cI, 33, .inl u))] t.heap ∧ va_K (dC, dI) vwCl [(cI, .int)] t ∧ va_D (va_A [(h0, .inr (1, [.ref me, .ref sp, .int fa, .int fl, .int fd, .int cr, .int lo, .int so])), (sp, .inl (cI, 33, .inl f))] sz) [(h0, .inr (1, [.ref me, .ref sp, .int fa, .int fl, .int fd, .int cr, .int lo, .int so])), (sp, .inl (cI, 33, .inl u))]) (va_A [(h0, .inr (1, [.ref me, .ref sp, .int fa, .int fl, .int fd, .int cr, .int lo, .int so])), (sp, .inl (cI, 33, .inl f))] sz)) 0 0 (va_A [(h0, .inr (1, [.ref me, .ref sp, .int fa, .int fl, .int fd, .int cr, .int lo, .int so])), (sp, .inl (cI, 33, .inl f))] sz) := by
  refine Met.ofW (cc := cX1_forget) (maxL := 5) (ret := (some .int)) (by decide) rfl ?_
  intro p e s m args below meth c s₁ B hml hv
  obtain ⟨rfl, hsz, hP, hK, hD0⟩ := hv
  have hx := B.exec
  have hb := B.bytes
  have hr := B.returns
  have hts := atoms_spec (ws := wsX1_forget) B.pre
  have hown : s.vm.findClass RX1 = some m.cls := findClass_of_methodNamed B.named
  have hlocks := B.notSynchronized
  subst hsz
  have hD := hD0.self (sz := s.heap.size)
  generalize hAe : va_A [(h0, .inr (1, [.ref me, .ref sp, .int fa, .int fl, .int fd, .int cr, .int lo, .int so])), (sp, .inl (cI, 33, .inl f))] s.heap.size = A at hD ⊢
  have hA : ∀ q : Nat, s.heap.size ≤ q → A q := fun q h => by rw [← hAe]; exact Or.inr h
  have hS : va_S A s.heap s.heap [] := va_S.rf
  have hP : va_P (dC, dI) vwCl [(h0, .inr (1, [.ref me, .ref sp, .int fa, .int fl, .int fd, .int cr, .int lo, .int so])), (sp, .inl (cI, 33, .inl f))] s.heap := hP
  have hl := lv_entry ([.ref h0, .int dd]) (n := 5) (Nat.le_of_ble_eq_true rfl)
  rw [lg_entry_eq]
  generalize (lg_sl ([.ref h0, .int dd]) ++ List.replicate (5 - (lg_sl ([.ref h0, .int dd])).length) Slot.unset).toArray = ls at hl ⊢
  have hl : lv_has ls 5 [(0, .ref h0), (1, .int dd)] := hl
  refine lv_aload_n hx hb dX1_forget_0 rfl (lv_at hl 0 rfl) ?_
  refine lv_iload_n hx hb dX1_forget_1 rfl (lv_at hl 1 rfl) ?_
  have hPc := hP.sub (ws' := [(h0, .inr (1, [.ref me, .ref sp, .int fa, .int fl, .int fd, .int cr, .int lo, .int so])), (sp, .inl (cI, 33, .inl f))]) [0, 1] rfl
  have hKc := hK.sub (tys' := [(cI, .int)]) [0] rfl
  refine vp_callSi (va_Run.run (va_runV (As := [.int dd]) (rest := []) ⟨hx, hb, hml, hown, hts⟩ (c_X1_countMatches l dC dI h0 me sp cI f fa fl fd cr lo so dd) (cwV 1 hts gX1_forget_X1_countMatches rfl rfl rfl (by decide +kernel) ⟨Nat.le_of_ble_eq_true rfl, Nat.le_of_ble_eq_true rfl⟩) ⟨fun a U g mk q => by obtain ⟨q0, qP, qK⟩ := q; exact ⟨q0, qP, va_K.moved (u := U) (U := U.calling g mk a) (Vm.Alike.refl U.vm) qK⟩, va_recv hKc hPc (ci := 1) (q0 := 0) rfl rfl, fun U hU hW => ⟨rfl, by rw [hU]; exact hPc, va_K.moved hW.alike hKc⟩⟩ rfl rfl hl.1 rfl (lv_room (Nat.le_of_ble_eq_true rfl)) dX1_forget_2 ⟨Nat.le_of_ble_eq_true rfl, Nat.le_of_ble_eq_true rfl⟩)) (fun r_1 hw_2 => ?_)
  subst hw_2
  refine lv_istore_n (lv' := [(2, .int (s_X1_countMatches f dd)), (0, .ref h0), (1, .int dd)]) hx hb dX1_forget_5 rfl hl (by decide) rfl (fun ls hl => ?_)
  refine lv_iload_n hx hb dX1_forget_6 rfl (lv_at hl 2 rfl) ?_
  refine vp_callSi (va_Run.run (va_runS (As := [.int dd]) (rest := []) ⟨hx, hb, hml, hown, hts⟩ (c_X1_firstMatch l dd) (va_cwS 1 hts gX1_forget_X1_firstMatch rfl rfl rfl (by decide +kernel) ⟨Nat.le_of_ble_eq_true rfl, Nat.le_of_ble_eq_true rfl⟩) ⟨fun a U g mk q => q, fun U hU hW => ⟨rfl, trivial⟩⟩ rfl rfl hl.1 rfl (lv_room (Nat.le_of_ble_eq_true rfl)) dX1_forget_7 ⟨Nat.le_of_ble_eq_true rfl, Nat.le_of_ble_eq_true rfl⟩)) (fun r_3 hw_4 => ?_)
  subst hw_4
  refine lv_istore_n (lv' := [(3, .int (s_X1_firstMatch dd)), (2, .int (s_X1_countMatches f dd)), (0, .ref h0), (1, .int dd)]) hx hb dX1_forget_10 rfl hl (by decide) rfl (fun ls hl => ?_)
  refine lv_iconst (v := 0) hx hb dX1_forget_11 (by decide) ?_
  refine lv_istore (lv' := [(4, .int 0), (3, .int (s_X1_firstMatch dd)), (2, .int (s_X1_countMatches f dd)), (0, .ref h0), (1, .int dd)]) hx hb dX1_forget_12 hl (by decide) rfl (fun ls hl => ?_)
  refine lp_X1_forget hx hb hml hown hts dC dI h0 me sp cI f fa fl fd cr lo so dd (s_X1_countMatches f dd) hA hK 8 0 _ _ ls (by omega) hP hD hS (lv_sub hl [0, 1, 2, 3, 4] rfl) (fun H locs ls hP hD hS hl => ?_)
  refine lv_iload_n hx hb dX1_forget_41 rfl (lv_at hl 2 rfl) ?_
  exact W.iret (v := s_X1_countMatches f dd) hx hb hr (fun t ht hW => ⟨⟨s_X1_countMatches f dd, (s_clr f (s_X1_firstMatch dd) 8), rfl, by first | rfl | (unfold s_X1_forget; rfl), by rw [ht]; exact hP, va_K.moved hW.alike hK, hD⟩, hS.F ht⟩) hS.2.2 dX1_forget_42
def s_X1_find (f : Nat → Int32) (v : Int32) (how : Int32) (wd : Int32) : Int32 :=
  if how < 0 then
    0
  else
    if how ≤ 2 then
      if wd = 0 then
        if how = 0 then
          s_X1_locate f v how 1
        else
          s_X1_locate f v how 0
      else
        s_X1_locate f v how 1
    else
      0
set_option maxHeartbeats 4000000 in
set_option maxRecDepth 100000 in
theorem c_X1_find (l : Launch) (dC : Nat → ClassId) (dI : Nat → Nat → Nat) (h0 me sp : Nat) (cI : ClassId) (f : Nat → Int32) (fa fl fd cr lo so : Int32) (v : Int32) (how : Int32) (wd : Int32)  : Met l yX1_find wsX1_find ({ frames := 3, cells := 0, slots := 0, locals := 66 }) (va_Pc [.ref h0, .int v, .int how, .int wd] (fun U => va_P (dC, dI) vwCl [(h0, .inr (1, [.ref me, .ref sp, .int fa, .int fl, .int fd, .int cr, .int lo, .int so])), (sp, .inl (cI, 33, .inl f))] U.heap ∧ va_K (dC, dI) vwCl [(cI, .int)] U)) (vp_Si (fun x_ => x_ = s_X1_find f v how wd)) 0 0 (fun _ => False) := by
  refine Met.ofW (cc := cX1_find) (maxL := 4) (ret := (some .int)) (by decide) rfl ?_
  intro p e s m args below meth c s₁ B hml hv
  obtain ⟨rfl, hP, hK⟩ := hv
  have hx := B.exec
  have hb := B.bytes
  have hr := B.returns
  have hts := atoms_spec (ws := wsX1_find) B.pre
  have hown : s.vm.findClass RX1 = some m.cls := findClass_of_methodNamed B.named
  have hlocks := B.notSynchronized
  have hl := lv_entry ([.ref h0, .int v, .int how, .int wd]) (n := 4) (Nat.le_of_ble_eq_true rfl)
  rw [lg_entry_eq]
  generalize (lg_sl ([.ref h0, .int v, .int how, .int wd]) ++ List.replicate (4 - (lg_sl ([.ref h0, .int v, .int how, .int wd])).length) Slot.unset).toArray = ls at hl ⊢
  have hl : lv_has ls 4 [(0, .ref h0), (1, .int v), (2, .int how), (3, .int wd)] := hl
  have hP : va_P (dC, dI) vwCl [(h0, .inr (1, [.ref me, .ref sp, .int fa, .int fl, .int fd, .int cr, .int lo, .int so])), (sp, .inl (cI, 33, .inl f))] s.heap := hP
  refine lv_iload_n hx hb dX1_find_0 rfl (lv_at hl 2 rfl) ?_
  refine lv_if_lt (tgt := 9) hx hb dX1_find_1 (by decide) (fun c_1 => ?_) (fun c_1 => ?_)
  · skip
    refine lv_iconst (v := 0) hx hb dX1_find_9 (by decide) ?_
    exact W.iret (v := 0) hx hb hr (fun t ht hW => ⟨0, rfl, by simp only [s_X1_find, if_pos c_1], ht⟩) (fun q h => by cases h) dX1_find_10
  · skip
    refine lv_iload_n hx hb dX1_find_4 rfl (lv_at hl 2 rfl) ?_
    refine lv_iconst (v := 2) hx hb dX1_find_5 (by decide) ?_
    refine lv_icmp_le (tgt := 11) hx hb dX1_find_6 (by decide) (fun c_2 => ?_) (fun c_2 => ?_)
    · skip
      refine lv_aload_n hx hb dX1_find_11 rfl (lv_at hl 0 rfl) ?_
      refine lv_iload_n hx hb dX1_find_12 rfl (lv_at hl 1 rfl) ?_
      refine lv_iload_n hx hb dX1_find_13 rfl (lv_at hl 2 rfl) ?_
      refine lv_iload_n hx hb dX1_find_14 rfl (lv_at hl 3 rfl) ?_
      refine lv_if_ne (tgt := 22) hx hb dX1_find_15 (by decide) (fun c_3 => ?_) (fun c_3 => ?_)
      · skip
        refine lv_iconst (v := 1) hx hb dX1_find_22 (by decide) ?_
        refine lv_goto (tgt := 27) hx hb dX1_find_23 (by decide) ?_
        have hPc := hP.sub (ws' := [(h0, .inr (1, [.ref me, .ref sp, .int fa, .int fl, .int fd, .int cr, .int lo, .int so])), (sp, .inl (cI, 33, .inl f))]) [0, 1] rfl
        have hKc := hK.sub (tys' := [(cI, .int)]) [0] rfl
        refine vp_callSi (va_Run.run (va_runV (As := [.int v, .int how, .int 1]) (rest := []) ⟨hx, hb, hml, hown, hts⟩ (c_X1_locate l dC dI h0 me sp cI f fa fl fd cr lo so v how 1) (cwV 3 hts gX1_find_X1_locate rfl rfl rfl (by decide +kernel) ⟨Nat.le_of_ble_eq_true rfl, Nat.le_of_ble_eq_true rfl⟩) ⟨fun a U g mk q => by obtain ⟨q0, qP, qK⟩ := q; exact ⟨q0, qP, va_K.moved (u := U) (U := U.calling g mk a) (Vm.Alike.refl U.vm) qK⟩, va_recv hKc hPc (ci := 1) (q0 := 0) rfl rfl, fun U hU hW => ⟨rfl, by rw [hU]; exact hPc, va_K.moved hW.alike hKc⟩⟩ rfl rfl hl.1 rfl (lv_room (Nat.le_of_ble_eq_true rfl)) dX1_find_27 ⟨Nat.le_of_ble_eq_true rfl, Nat.le_of_ble_eq_true rfl⟩)) (fun r_4 hw_5 => ?_)
        subst hw_5
        exact W.iret (v := s_X1_locate f v how 1) hx hb hr (fun t ht hW => ⟨s_X1_locate f v how 1, rfl, by simp only [s_X1_find, if_neg c_1, if_pos c_2, if_neg c_3], ht⟩) (fun q h => by cases h) dX1_find_30
      · skip
        refine lv_iload_n hx hb dX1_find_18 rfl (lv_at hl 2 rfl) ?_
        refine lv_if_ne (tgt := 26) hx hb dX1_find_19 (by decide) (fun c_6 => ?_) (fun c_6 => ?_)
        · skip
          refine lv_iconst (v := 0) hx hb dX1_find_26 (by decide) ?_
          have hPc := hP.sub (ws' := [(h0, .inr (1, [.ref me, .ref sp, .int fa, .int fl, .int fd, .int cr, .int lo, .int so])), (sp, .inl (cI, 33, .inl f))]) [0, 1] rfl
          have hKc := hK.sub (tys' := [(cI, .int)]) [0] rfl
          refine vp_callSi (va_Run.run (va_runV (As := [.int v, .int how, .int 0]) (rest := []) ⟨hx, hb, hml, hown, hts⟩ (c_X1_locate l dC dI h0 me sp cI f fa fl fd cr lo so v how 0) (cwV 3 hts gX1_find_X1_locate rfl rfl rfl (by decide +kernel) ⟨Nat.le_of_ble_eq_true rfl, Nat.le_of_ble_eq_true rfl⟩) ⟨fun a U g mk q => by obtain ⟨q0, qP, qK⟩ := q; exact ⟨q0, qP, va_K.moved (u := U) (U := U.calling g mk a) (Vm.Alike.refl U.vm) qK⟩, va_recv hKc hPc (ci := 1) (q0 := 0) rfl rfl, fun U hU hW => ⟨rfl, by rw [hU]; exact hPc, va_K.moved hW.alike hKc⟩⟩ rfl rfl hl.1 rfl (lv_room (Nat.le_of_ble_eq_true rfl)) dX1_find_27 ⟨Nat.le_of_ble_eq_true rfl, Nat.le_of_ble_eq_true rfl⟩)) (fun r_7 hw_8 => ?_)
          subst hw_8
          exact W.iret (v := s_X1_locate f v how 0) hx hb hr (fun t ht hW => ⟨s_X1_locate f v how 0, rfl, by simp only [s_X1_find, if_neg c_1, if_pos c_2, if_pos c_3, if_neg c_6], ht⟩) (fun q h => by cases h) dX1_find_30
        · skip
          refine lv_iconst (v := 1) hx hb dX1_find_22 (by decide) ?_
          refine lv_goto (tgt := 27) hx hb dX1_find_23 (by decide) ?_
          have hPc := hP.sub (ws' := [(h0, .inr (1, [.ref me, .ref sp, .int fa, .int fl, .int fd, .int cr, .int lo, .int so])), (sp, .inl (cI, 33, .inl f))]) [0, 1] rfl
          have hKc := hK.sub (tys' := [(cI, .int)]) [0] rfl
          refine vp_callSi (va_Run.run (va_runV (As := [.int v, .int how, .int 1]) (rest := []) ⟨hx, hb, hml, hown, hts⟩ (c_X1_locate l dC dI h0 me sp cI f fa fl fd cr lo so v how 1) (cwV 3 hts gX1_find_X1_locate rfl rfl rfl (by decide +kernel) ⟨Nat.le_of_ble_eq_true rfl, Nat.le_of_ble_eq_true rfl⟩) ⟨fun a U g mk q => by obtain ⟨q0, qP, qK⟩ := q; exact ⟨q0, qP, va_K.moved (u := U) (U := U.calling g mk a) (Vm.Alike.refl U.vm) qK⟩, va_recv hKc hPc (ci := 1) (q0 := 0) rfl rfl, fun U hU hW => ⟨rfl, by rw [hU]; exact hPc, va_K.moved hW.alike hKc⟩⟩ rfl rfl hl.1 rfl (lv_room (Nat.le_of_ble_eq_true rfl)) dX1_find_27 ⟨Nat.le_of_ble_eq_true rfl, Nat.le_of_ble_eq_true rfl⟩)) (fun r_9 hw_10 => ?_)
          subst hw_10
          exact W.iret (v := s_X1_locate f v how 1) hx hb hr (fun t ht hW => ⟨s_X1_locate f v how 1, rfl, by simp only [s_X1_find, if_neg c_1, if_pos c_2, if_pos c_3, if_pos c_6], ht⟩) (fun q h => by cases h) dX1_find_30
    · skip
      refine lv_iconst (v := 0) hx hb dX1_find_9 (by decide) ?_
      exact W.iret (v := 0) hx hb hr (fun t ht hW => ⟨0, rfl, by simp only [s_X1_find, if_neg c_1, if_neg c_2], ht⟩) (fun q h => by cases h) dX1_find_10
