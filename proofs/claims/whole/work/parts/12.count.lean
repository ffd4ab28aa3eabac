/-- how many of the first i are odd -/
def s_cnt (f : Nat → Int32) (b : Int32) : Nat → Int32
  | 0 => 0
  | i + 1 => if s_X1_isOdd (f (b + nI i).toNatClampNeg) = 0 then s_cnt f b i else s_cnt f b i + 1
/-- the first i made even -/
def s_clr (f : Nat → Int32) (b : Int32) : Nat → Nat → Int32
  | 0 => f
  | i + 1 => upd (s_clr f b i) (b + nI i).toNatClampNeg (s_clr f b i (b + nI i).toNatClampNeg &&& (-2))
theorem in_c (d : Int32) {i : Nat} (hi : i < 8) : vp_in (s_X1_firstMatch d + nI i) 33 := by
  rcases fm_n d with h | h
  · exact pk_in (0 + i) 33 (by omega) (by rw [h, nI_add])
  · exact pk_in (16 + i) 33 (by omega) (by rw [h, nI_add])
set_option maxRecDepth 100000 in
theorem miX1_countMatches_X1 : ∀ w ∈ u_ws RX1 TX1 8, w ∈ wsX1_countMatches := by decide +kernel
set_option maxRecDepth 100000 in
theorem mbX1_countMatches_1 : (.fieldLink RX1 16 "SoftMaps" "specials" "[I" : Cond) ∈ wsX1_countMatches := by decide +kernel
set_option maxHeartbeats 4000000 in
set_option maxRecDepth 100000 in
theorem lp_X1_countMatches {p : Program} {l : Launch} {e : Env} {s : State} {m : MethodId} {args : Array Value} {below : List Frame} {meth : Method} {c : Code} {Q : State → Prop} {H : Heap} {locs : List Loc} (hx : p.tables.exec = Jvm.exec) (hb : c.code = cX1_countMatches) (hml : c.maxLocals = 5) (hown : s.vm.findClass RX1 = some m.cls) (hts : ∀ w ∈ wsX1_countMatches, w.before args s = true) (dC : Nat → ClassId) (dI : Nat → Nat → Nat) (h0 me sp : Nat) (cI : ClassId) (f : Nat → Int32) (fa fl fd cr lo so : Int32) (dd : Int32) (hP : va_P (dC, dI) vwCl [(h0, .inr (1, [.ref me, .ref sp, .int fa, .int fl, .int fd, .int cr, .int lo, .int so])), (sp, .inl (cI, 33, .inl f))] H) (hK : va_K (dC, dI) vwCl [(cI, .int)] s) : ∀ (n i : Nat) (ls : Array Slot), i + n = 8 → lv_has ls 5 [(4, .int (nI i)), (3, .int (s_cnt f (s_X1_firstMatch dd) i)), (2, .int (s_X1_firstMatch dd)), (0, .ref h0), (1, .int dd)] → (∀ ls : Array Slot, lv_has ls 5 [(4, .int (nI 8)), (3, .int (s_cnt f (s_X1_firstMatch dd) 8)), (2, .int (s_X1_firstMatch dd)), (0, .ref h0), (1, .int dd)] → W p l e ({ frames := 1, cells := 0, slots := 0, locals := 20 }) s m args below meth c H locs 0 0 Q (F0 m 41 ls [])) → W p l e ({ frames := 1, cells := 0, slots := 0, locals := 20 }) s m args below meth c H locs 0 0 Q (F0 m 10 ls []) := by
  intro n
  induction n with
  | zero =>
    intro i ls hin hl kk
    obtain rfl : i = 8 := by omega
    refine lv_iload hx hb dX1_countMatches_10 (lv_at hl 0 rfl) ?_
    refine lv_bipush (v := 8) hx hb dX1_countMatches_12 (by decide) ?_
    refine lv_icmp_ge (tgt := 41) hx hb dX1_countMatches_14 (by decide) (fun cz => ?_) (fun cz => ?_)
    · exact kk ls hl
    · exact absurd (nI_le (Nat.le_refl 8) (by decide)) cz
  | succ n ih =>
    intro i ls hin hl kk
    have hi : i < 8 := by omega
    refine lv_iload hx hb dX1_countMatches_10 (lv_at hl 0 rfl) ?_
    refine lv_bipush (v := 8) hx hb dX1_countMatches_12 (by decide) ?_
    refine lv_icmp_ge (tgt := 41) hx hb dX1_countMatches_14 (by decide) (fun cz => ?_) (fun cz => ?_)
    · exact absurd cz (nI_ge hi (by decide))
    · skip
      refine lv_aload_n hx hb dX1_countMatches_17 rfl (lv_at hl 3 rfl) ?_
      refine va_get (D := (dC, dI)) (ci := 1) (v := .ref sp) (C := RX1) (T := TX1) (N := 8) hx hb hts miX1_countMatches_X1 hown hK hP 0 rfl rfl 1 (by decide) (hts _ mbX1_countMatches_1) (fun _ h9 => h9) rfl dX1_countMatches_18 ?_
      refine lv_iload_n hx hb dX1_countMatches_21 rfl (lv_at hl 2 rfl) ?_
      refine lv_iload hx hb dX1_countMatches_22 (lv_at hl 0 rfl) ?_
      refine lv_iadd hx hb dX1_countMatches_24 ?_
      refine va_iald hx hb hK hP 1 0 rfl rfl (in_c dd hi) dX1_countMatches_25 ?_
      refine vp_callSi (va_Run.run (va_runS (As := [.int (f ((s_X1_firstMatch dd) + (nI i)).toNatClampNeg)]) (rest := []) ⟨hx, hb, hml, hown, hts⟩ (c_X1_isOdd l (f ((s_X1_firstMatch dd) + (nI i)).toNatClampNeg)) (va_cwS 1 hts gX1_countMatches_X1_isOdd rfl rfl rfl (by decide +kernel) ⟨Nat.le_of_ble_eq_true rfl, Nat.le_of_ble_eq_true rfl⟩) ⟨fun a U g mk q => q, fun U hU hW => ⟨rfl, trivial⟩⟩ rfl rfl hl.1 rfl (lv_room (Nat.le_of_ble_eq_true rfl)) dX1_countMatches_26 ⟨Nat.le_of_ble_eq_true rfl, Nat.le_of_ble_eq_true rfl⟩)) (fun r_1 hw_2 => ?_)
      subst hw_2
      refine lv_if_eq (tgt := 35) hx hb dX1_countMatches_29 (by decide) (fun c_3 => ?_) (fun c_3 => ?_)
      · skip
        refine lv_iinc (v := (nI i) + 1) (lv' := [(4, .int ((nI i) + 1)), (3, .int (s_cnt f (s_X1_firstMatch dd) i)), (2, .int (s_X1_firstMatch dd)), (0, .ref h0), (1, .int dd)]) hx hb dX1_countMatches_35 hl (k := 0) rfl rfl (by decide) rfl (fun ls hl => ?_)
        refine lv_goto (tgt := 10) hx hb dX1_countMatches_38 (by decide) ?_
        have e2 : s_cnt f (s_X1_firstMatch dd) (i + 1) = s_cnt f (s_X1_firstMatch dd) i := by simp only [s_cnt, if_pos c_3]
        exact ih (i + 1) ls (by omega) (by rw [e2, ← nI_1 i]; exact lv_sub hl [0, 1, 2, 3, 4] rfl) kk
      · skip
        refine lv_iinc (v := (s_cnt f (s_X1_firstMatch dd) i) + 1) (lv' := [(3, .int ((s_cnt f (s_X1_firstMatch dd) i) + 1)), (4, .int (nI i)), (2, .int (s_X1_firstMatch dd)), (0, .ref h0), (1, .int dd)]) hx hb dX1_countMatches_32 hl (k := 1) rfl rfl (by decide) rfl (fun ls hl => ?_)
        refine lv_iinc (v := (nI i) + 1) (lv' := [(4, .int ((nI i) + 1)), (3, .int ((s_cnt f (s_X1_firstMatch dd) i) + 1)), (2, .int (s_X1_firstMatch dd)), (0, .ref h0), (1, .int dd)]) hx hb dX1_countMatches_35 hl (k := 1) rfl rfl (by decide) rfl (fun ls hl => ?_)
        refine lv_goto (tgt := 10) hx hb dX1_countMatches_38 (by decide) ?_
        have e2 : s_cnt f (s_X1_firstMatch dd) (i + 1) = (s_cnt f (s_X1_firstMatch dd) i) + 1 := by simp only [s_cnt, if_neg c_3]
        exact ih (i + 1) ls (by omega) (by rw [e2, ← nI_1 i]; exact lv_sub hl [0, 1, 2, 3, 4] rfl) kk
def s_X1_countMatches (f : Nat → Int32) (dd : Int32) : Int32 :=
  s_cnt f (s_X1_firstMatch dd) 8
set_option maxHeartbeats 4000000 in
set_option maxRecDepth 100000 in
theorem c_X1_countMatches (l : Launch) (dC : Nat → ClassId) (dI : Nat → Nat → Nat) (h0 me sp : Nat) (cI : ClassId) (f : Nat → Int32) (fa fl fd cr lo so : Int32) (dd : Int32)  : Met l yX1_countMatches wsX1_countMatches ({ frames := 1, cells := 0, slots := 0, locals := 20 }) (va_Pc [.ref h0, .int dd] (fun U => va_P (dC, dI) vwCl [(h0, .inr (1, [.ref me, .ref sp, .int fa, .int fl, .int fd, .int cr, .int lo, .int so])), (sp, .inl (cI, 33, .inl f))] U.heap ∧ va_K (dC, dI) vwCl [(cI, .int)] U)) (vp_Si (fun x_ => x_ = s_X1_countMatches f dd)) 0 0 (fun _ => False) := by
  refine Met.ofW (cc := cX1_countMatches) (maxL := 5) (ret := (some .int)) (by decide) rfl ?_
  intro p e s m args below meth c s₁ B hml hv
  obtain ⟨rfl, hP, hK⟩ := hv
  have hx := B.exec
  have hb := B.bytes
  have hr := B.returns
  have hts := atoms_spec (ws := wsX1_countMatches) B.pre
  have hown : s.vm.findClass RX1 = some m.cls := findClass_of_methodNamed B.named
  have hlocks := B.notSynchronized
  have hl := lv_entry ([.ref h0, .int dd]) (n := 5) (Nat.le_of_ble_eq_true rfl)
  rw [lg_entry_eq]
  generalize (lg_sl ([.ref h0, .int dd]) ++ List.replicate (5 - (lg_sl ([.ref h0, .int dd])).length) Slot.unset).toArray = ls at hl ⊢
  have hl : lv_has ls 5 [(0, .ref h0), (1, .int dd)] := hl
  have hP : va_P (dC, dI) vwCl [(h0, .inr (1, [.ref me, .ref sp, .int fa, .int fl, .int fd, .int cr, .int lo, .int so])), (sp, .inl (cI, 33, .inl f))] s.heap := hP
  refine lv_iload_n hx hb dX1_countMatches_0 rfl (lv_at hl 1 rfl) ?_
  refine vp_callSi (va_Run.run (va_runS (As := [.int dd]) (rest := []) ⟨hx, hb, hml, hown, hts⟩ (c_X1_firstMatch l dd) (va_cwS 1 hts gX1_countMatches_X1_firstMatch rfl rfl rfl (by decide +kernel) ⟨Nat.le_of_ble_eq_true rfl, Nat.le_of_ble_eq_true rfl⟩) ⟨fun a U g mk q => q, fun U hU hW => ⟨rfl, trivial⟩⟩ rfl rfl hl.1 rfl (lv_room (Nat.le_of_ble_eq_true rfl)) dX1_countMatches_1 ⟨Nat.le_of_ble_eq_true rfl, Nat.le_of_ble_eq_true rfl⟩)) (fun r_1 hw_2 => ?_)
  subst hw_2
  refine lv_istore_n (lv' := [(2, .int (s_X1_firstMatch dd)), (0, .ref h0), (1, .int dd)]) hx hb dX1_countMatches_4 rfl hl (by decide) rfl (fun ls hl => ?_)
  refine lv_iconst (v := 0) hx hb dX1_countMatches_5 (by decide) ?_
  refine lv_istore_n (lv' := [(3, .int 0), (2, .int (s_X1_firstMatch dd)), (0, .ref h0), (1, .int dd)]) hx hb dX1_countMatches_6 rfl hl (by decide) rfl (fun ls hl => ?_)
  refine lv_iconst (v := 0) hx hb dX1_countMatches_7 (by decide) ?_
  refine lv_istore (lv' := [(4, .int 0), (3, .int 0), (2, .int (s_X1_firstMatch dd)), (0, .ref h0), (1, .int dd)]) hx hb dX1_countMatches_8 hl (by decide) rfl (fun ls hl => ?_)
  refine lp_X1_countMatches hx hb hml hown hts dC dI h0 me sp cI f fa fl fd cr lo so dd hP hK 8 0 ls (by omega) (lv_sub hl [0, 1, 2, 3, 4] rfl) (fun ls hl => ?_)
  refine lv_iload_n hx hb dX1_countMatches_41 rfl (lv_at hl 1 rfl) ?_
  exact W.iret (v := s_cnt f (s_X1_firstMatch dd) 8) hx hb hr (fun t ht hW => ⟨s_cnt f (s_X1_firstMatch dd) 8, rfl, by first | rfl | (unfold s_X1_countMatches; rfl), ht⟩) (fun q h => by cases h) dX1_countMatches_42
set_option maxRecDepth 100000 in
theorem miX1_look_X1 : ∀ w ∈ u_ws RX1 TX1 8, w ∈ wsX1_look := by decide +kernel
set_option maxRecDepth 100000 in
theorem mbX1_look_1 : (.fieldLink RX1 68 "SoftMaps" "faults" "I" : Cond) ∈ wsX1_look := by decide +kernel
set_option maxRecDepth 100000 in
theorem mbX1_look_2 : (.fieldLink RX1 71 "SoftMaps" "latestFault" "I" : Cond) ∈ wsX1_look := by decide +kernel
set_option maxRecDepth 100000 in
theorem mbX1_look_3 : (.fieldLink RX1 74 "SoftMaps" "faultAddress" "I" : Cond) ∈ wsX1_look := by decide +kernel
set_option maxRecDepth 100000 in
theorem mbX1_look_4 : (.fieldLink RX1 35 "SoftMaps" "codeReads" "I" : Cond) ∈ wsX1_look := by decide +kernel
set_option maxRecDepth 100000 in
theorem mbX1_look_5 : (.fieldLink RX1 43 "SoftMaps" "loads" "I" : Cond) ∈ wsX1_look := by decide +kernel
set_option maxRecDepth 100000 in
theorem mbX1_look_6 : (.fieldLink RX1 49 "SoftMaps" "stores" "I" : Cond) ∈ wsX1_look := by decide +kernel
def s_X1_look (f : Nat → Int32) (fa : Int32) (fl : Int32) (fd : Int32) (cr : Int32) (lo : Int32) (so : Int32) (k : Int32) : Int32 :=
  if k = 0 then
    fa
  else
    if k = 1 then
      fl
    else
      if k = 2 then
        fd
      else
        if k = 3 then
          cr
        else
          if k = 4 then
            lo
          else
            if k = 5 then
              so
            else
              if k = 6 then
                s_X1_countMatches f 0
              else
                if k = 7 then
                  s_X1_countMatches f 1
                else
                  (-1)
set_option maxHeartbeats 4000000 in
set_option maxRecDepth 100000 in
theorem c_X1_look (l : Launch) (dC : Nat → ClassId) (dI : Nat → Nat → Nat) (h0 me sp : Nat) (cI : ClassId) (f : Nat → Int32) (fa fl fd cr lo so : Int32) (k : Int32)  : Met l yX1_look wsX1_look ({ frames := 2, cells := 0, slots := 0, locals := 44 }) (va_Pc [.ref h0, .int k] (fun U => va_P (dC, dI) vwCl [(h0, .inr (1, [.ref me, .ref sp, .int fa, .int fl, .int fd, .int cr, .int lo, .int so])), (sp, .inl (cI, 33, .inl f))] U.heap ∧ va_K (dC, dI) vwCl [(cI, .int)] U)) (vp_Si (fun x_ => x_ = s_X1_look f fa fl fd cr lo so k)) 0 0 (fun _ => False) := by
  refine Met.ofW (cc := cX1_look) (maxL := 2) (ret := (some .int)) (by decide) rfl ?_
  intro p e s m args below meth c s₁ B hml hv
  obtain ⟨rfl, hP, hK⟩ := hv
  have hx := B.exec
  have hb := B.bytes
  have hr := B.returns
  have hts := atoms_spec (ws := wsX1_look) B.pre
  have hown : s.vm.findClass RX1 = some m.cls := findClass_of_methodNamed B.named
  have hlocks := B.notSynchronized
  have hl := lv_entry ([.ref h0, .int k]) (n := 2) (Nat.le_of_ble_eq_true rfl)
  rw [lg_entry_eq]
  generalize (lg_sl ([.ref h0, .int k]) ++ List.replicate (2 - (lg_sl ([.ref h0, .int k])).length) Slot.unset).toArray = ls at hl ⊢
  have hl : lv_has ls 2 [(0, .ref h0), (1, .int k)] := hl
  have hP : va_P (dC, dI) vwCl [(h0, .inr (1, [.ref me, .ref sp, .int fa, .int fl, .int fd, .int cr, .int lo, .int so])), (sp, .inl (cI, 33, .inl f))] s.heap := hP
  refine lv_iload_n hx hb dX1_look_0 rfl (lv_at hl 1 rfl) ?_
  by_cases hs_1 : k = 0
  · refine lv_tableIn (tgt := 48) hx hb dX1_look_1 (by rw [hs_1]; decide) (by rw [hs_1]; decide) (off := 47) (by rw [hs_1]; decide) (by decide) ?_
    refine lv_aload_n hx hb dX1_look_48 rfl (lv_at hl 0 rfl) ?_
    refine va_get (D := (dC, dI)) (ci := 1) (v := .int fa) (C := RX1) (T := TX1) (N := 8) hx hb hts miX1_look_X1 hown hK hP 0 rfl rfl 2 (by decide) (hts _ mbX1_look_1) (fun _ h9 => h9) rfl dX1_look_49 ?_
    exact W.iret (v := fa) hx hb hr (fun t ht hW => ⟨fa, rfl, by simp only [s_X1_look, if_pos hs_1], ht⟩) (fun q h => by cases h) dX1_look_52
  · skip
    by_cases hs_2 : k = 1
    · refine lv_tableIn (tgt := 53) hx hb dX1_look_1 (by rw [hs_2]; decide) (by rw [hs_2]; decide) (off := 52) (by rw [hs_2]; decide) (by decide) ?_
      refine lv_aload_n hx hb dX1_look_53 rfl (lv_at hl 0 rfl) ?_
      refine va_get (D := (dC, dI)) (ci := 1) (v := .int fl) (C := RX1) (T := TX1) (N := 8) hx hb hts miX1_look_X1 hown hK hP 0 rfl rfl 3 (by decide) (hts _ mbX1_look_2) (fun _ h9 => h9) rfl dX1_look_54 ?_
      exact W.iret (v := fl) hx hb hr (fun t ht hW => ⟨fl, rfl, by simp only [s_X1_look, if_neg hs_1, if_pos hs_2], ht⟩) (fun q h => by cases h) dX1_look_57
    · skip
      by_cases hs_3 : k = 2
      · refine lv_tableIn (tgt := 58) hx hb dX1_look_1 (by rw [hs_3]; decide) (by rw [hs_3]; decide) (off := 57) (by rw [hs_3]; decide) (by decide) ?_
        refine lv_aload_n hx hb dX1_look_58 rfl (lv_at hl 0 rfl) ?_
        refine va_get (D := (dC, dI)) (ci := 1) (v := .int fd) (C := RX1) (T := TX1) (N := 8) hx hb hts miX1_look_X1 hown hK hP 0 rfl rfl 4 (by decide) (hts _ mbX1_look_3) (fun _ h9 => h9) rfl dX1_look_59 ?_
        exact W.iret (v := fd) hx hb hr (fun t ht hW => ⟨fd, rfl, by simp only [s_X1_look, if_neg hs_1, if_neg hs_2, if_pos hs_3], ht⟩) (fun q h => by cases h) dX1_look_62
      · skip
        by_cases hs_4 : k = 3
        · refine lv_tableIn (tgt := 63) hx hb dX1_look_1 (by rw [hs_4]; decide) (by rw [hs_4]; decide) (off := 62) (by rw [hs_4]; decide) (by decide) ?_
          refine lv_aload_n hx hb dX1_look_63 rfl (lv_at hl 0 rfl) ?_
          refine va_get (D := (dC, dI)) (ci := 1) (v := .int cr) (C := RX1) (T := TX1) (N := 8) hx hb hts miX1_look_X1 hown hK hP 0 rfl rfl 5 (by decide) (hts _ mbX1_look_4) (fun _ h9 => h9) rfl dX1_look_64 ?_
          exact W.iret (v := cr) hx hb hr (fun t ht hW => ⟨cr, rfl, by simp only [s_X1_look, if_neg hs_1, if_neg hs_2, if_neg hs_3, if_pos hs_4], ht⟩) (fun q h => by cases h) dX1_look_67
        · skip
          by_cases hs_5 : k = 4
          · refine lv_tableIn (tgt := 68) hx hb dX1_look_1 (by rw [hs_5]; decide) (by rw [hs_5]; decide) (off := 67) (by rw [hs_5]; decide) (by decide) ?_
            refine lv_aload_n hx hb dX1_look_68 rfl (lv_at hl 0 rfl) ?_
            refine va_get (D := (dC, dI)) (ci := 1) (v := .int lo) (C := RX1) (T := TX1) (N := 8) hx hb hts miX1_look_X1 hown hK hP 0 rfl rfl 6 (by decide) (hts _ mbX1_look_5) (fun _ h9 => h9) rfl dX1_look_69 ?_
            exact W.iret (v := lo) hx hb hr (fun t ht hW => ⟨lo, rfl, by simp only [s_X1_look, if_neg hs_1, if_neg hs_2, if_neg hs_3, if_neg hs_4, if_pos hs_5], ht⟩) (fun q h => by cases h) dX1_look_72
          · skip
            by_cases hs_6 : k = 5
            · refine lv_tableIn (tgt := 73) hx hb dX1_look_1 (by rw [hs_6]; decide) (by rw [hs_6]; decide) (off := 72) (by rw [hs_6]; decide) (by decide) ?_
              refine lv_aload_n hx hb dX1_look_73 rfl (lv_at hl 0 rfl) ?_
              refine va_get (D := (dC, dI)) (ci := 1) (v := .int so) (C := RX1) (T := TX1) (N := 8) hx hb hts miX1_look_X1 hown hK hP 0 rfl rfl 7 (by decide) (hts _ mbX1_look_6) (fun _ h9 => h9) rfl dX1_look_74 ?_
              exact W.iret (v := so) hx hb hr (fun t ht hW => ⟨so, rfl, by simp only [s_X1_look, if_neg hs_1, if_neg hs_2, if_neg hs_3, if_neg hs_4, if_neg hs_5, if_pos hs_6], ht⟩) (fun q h => by cases h) dX1_look_77
            · skip
              by_cases hs_7 : k = 6
              · refine lv_tableIn (tgt := 78) hx hb dX1_look_1 (by rw [hs_7]; decide) (by rw [hs_7]; decide) (off := 77) (by rw [hs_7]; decide) (by decide) ?_
                refine lv_aload_n hx hb dX1_look_78 rfl (lv_at hl 0 rfl) ?_
                refine lv_iconst (v := 0) hx hb dX1_look_79 (by decide) ?_
                have hPc := hP.sub (ws' := [(h0, .inr (1, [.ref me, .ref sp, .int fa, .int fl, .int fd, .int cr, .int lo, .int so])), (sp, .inl (cI, 33, .inl f))]) [0, 1] rfl
                have hKc := hK.sub (tys' := [(cI, .int)]) [0] rfl
                refine vp_callSi (va_Run.run (va_runV (As := [.int 0]) (rest := []) ⟨hx, hb, hml, hown, hts⟩ (c_X1_countMatches l dC dI h0 me sp cI f fa fl fd cr lo so 0) (cwV 1 hts gX1_look_X1_countMatches rfl rfl rfl (by decide +kernel) ⟨Nat.le_of_ble_eq_true rfl, Nat.le_of_ble_eq_true rfl⟩) ⟨fun a U g mk q => by obtain ⟨q0, qP, qK⟩ := q; exact ⟨q0, qP, va_K.moved (u := U) (U := U.calling g mk a) (Vm.Alike.refl U.vm) qK⟩, va_recv hKc hPc (ci := 1) (q0 := 0) rfl rfl, fun U hU hW => ⟨rfl, by rw [hU]; exact hPc, va_K.moved hW.alike hKc⟩⟩ rfl rfl hl.1 rfl (lv_room (Nat.le_of_ble_eq_true rfl)) dX1_look_80 ⟨Nat.le_of_ble_eq_true rfl, Nat.le_of_ble_eq_true rfl⟩)) (fun r_8 hw_9 => ?_)
                subst hw_9
                exact W.iret (v := s_X1_countMatches f 0) hx hb hr (fun t ht hW => ⟨s_X1_countMatches f 0, rfl, by simp only [s_X1_look, if_neg hs_1, if_neg hs_2, if_neg hs_3, if_neg hs_4, if_neg hs_5, if_neg hs_6, if_pos hs_7], ht⟩) (fun q h => by cases h) dX1_look_83
              · skip
                by_cases hs_10 : k = 7
                · refine lv_tableIn (tgt := 84) hx hb dX1_look_1 (by rw [hs_10]; decide) (by rw [hs_10]; decide) (off := 83) (by rw [hs_10]; decide) (by decide) ?_
                  refine lv_aload_n hx hb dX1_look_84 rfl (lv_at hl 0 rfl) ?_
                  refine lv_iconst (v := 1) hx hb dX1_look_85 (by decide) ?_
                  have hPc := hP.sub (ws' := [(h0, .inr (1, [.ref me, .ref sp, .int fa, .int fl, .int fd, .int cr, .int lo, .int so])), (sp, .inl (cI, 33, .inl f))]) [0, 1] rfl
                  have hKc := hK.sub (tys' := [(cI, .int)]) [0] rfl
                  refine vp_callSi (va_Run.run (va_runV (As := [.int 1]) (rest := []) ⟨hx, hb, hml, hown, hts⟩ (c_X1_countMatches l dC dI h0 me sp cI f fa fl fd cr lo so 1) (cwV 1 hts gX1_look_X1_countMatches rfl rfl rfl (by decide +kernel) ⟨Nat.le_of_ble_eq_true rfl, Nat.le_of_ble_eq_true rfl⟩) ⟨fun a U g mk q => by obtain ⟨q0, qP, qK⟩ := q; exact ⟨q0, qP, va_K.moved (u := U) (U := U.calling g mk a) (Vm.Alike.refl U.vm) qK⟩, va_recv hKc hPc (ci := 1) (q0 := 0) rfl rfl, fun U hU hW => ⟨rfl, by rw [hU]; exact hPc, va_K.moved hW.alike hKc⟩⟩ rfl rfl hl.1 rfl (lv_room (Nat.le_of_ble_eq_true rfl)) dX1_look_86 ⟨Nat.le_of_ble_eq_true rfl, Nat.le_of_ble_eq_true rfl⟩)) (fun r_11 hw_12 => ?_)
                  subst hw_12
                  exact W.iret (v := s_X1_countMatches f 1) hx hb hr (fun t ht hW => ⟨s_X1_countMatches f 1, rfl, by simp only [s_X1_look, if_neg hs_1, if_neg hs_2, if_neg hs_3, if_neg hs_4, if_neg hs_5, if_neg hs_6, if_neg hs_7, if_pos hs_10], ht⟩) (fun q h => by cases h) dX1_look_89
                · skip
                  refine lv_tableOut (tgt := 90) hx hb dX1_look_1 (by have := lv_neT hs_1 (a := 0) (by decide); have := lv_neT hs_2 (a := 1) (by decide); have := lv_neT hs_3 (a := 2) (by decide); have := lv_neT hs_4 (a := 3) (by decide); have := lv_neT hs_5 (a := 4) (by decide); have := lv_neT hs_6 (a := 5) (by decide); have := lv_neT hs_7 (a := 6) (by decide); have := lv_neT hs_10 (a := 7) (by decide); omega) (by decide) ?_
                  refine lv_iconst (v := (-1)) hx hb dX1_look_90 (by decide) ?_
                  exact W.iret (v := (-1)) hx hb hr (fun t ht hW => ⟨(-1), rfl, by simp only [s_X1_look, if_neg hs_1, if_neg hs_2, if_neg hs_3, if_neg hs_4, if_neg hs_5, if_neg hs_6, if_neg hs_7, if_neg hs_10], ht⟩) (fun q h => by cases h) dX1_look_91
