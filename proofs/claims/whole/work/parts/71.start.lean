set_option maxRecDepth 100000 in
theorem miL_law_X0 : ∀ w ∈ u_ws RX0 TX0 1, w ∈ lw_tbl := by decide +kernel
set_option maxRecDepth 100000 in
theorem mbL_law_1 : (.instantiable RX0 1 : Cond) ∈ lw_tbl := by decide +kernel
set_option maxRecDepth 100000 in
theorem miL_law_X1 : ∀ w ∈ u_ws RX1 TX1 8, w ∈ lw_tbl := by decide +kernel
set_option maxRecDepth 100000 in
theorem mbL_law_3 : (.instantiable RX1 8 : Cond) ∈ lw_tbl := by decide +kernel
set_option maxRecDepth 100000 in
theorem miL_law_X2 : ∀ w ∈ u_ws RX2 TX2 10, w ∈ lw_tbl := by decide +kernel
set_option maxRecDepth 100000 in
theorem mbL_law_5 : (.instantiable RX2 10 : Cond) ∈ lw_tbl := by decide +kernel
set_option maxRecDepth 100000 in
theorem mbL_law_6 : (.arrayOver (.array .int) : Cond) ∈ lw_tbl := by decide +kernel
set_option maxRecDepth 100000 in
theorem mbL_law_7 : (.methodLinkNest RX1 11 yX0_init "SoftMaps" : Cond) ∈ lw_tbl := by decide +kernel
set_option maxRecDepth 100000 in
theorem mbL_law_8 : (.classLink RL 7 RX1 : Cond) ∈ lw_tbl := by decide +kernel
set_option maxRecDepth 100000 in
theorem mbL_law_9 : (.initialized RX1 : Cond) ∈ lw_tbl := by decide +kernel
set_option maxRecDepth 100000 in
theorem mbL_law_10 : (.methodLink RL 9 yX1_init : Cond) ∈ lw_tbl := by decide +kernel
set_option maxRecDepth 100000 in
theorem mbL_law_11 : (.instanceMethod yX1_init : Cond) ∈ lw_tbl := by decide +kernel
set_option maxRecDepth 100000 in
theorem mbL_law_12 : (.classLink RL 10 RX2 : Cond) ∈ lw_tbl := by decide +kernel
set_option maxRecDepth 100000 in
theorem mbL_law_13 : (.initialized RX2 : Cond) ∈ lw_tbl := by decide +kernel
set_option maxRecDepth 100000 in
theorem mbL_law_14 : (.methodLink RL 12 yM_init : Cond) ∈ lw_tbl := by decide +kernel
set_option maxRecDepth 100000 in
theorem mbL_law_15 : (.instanceMethod yM_init : Cond) ∈ lw_tbl := by decide +kernel
set_option maxHeartbeats 4000000 in
set_option maxRecDepth 100000 in
/-- THE LAW, from its entry -/
theorem whole_start {p : Program} {e : Env} {s : State} {m : MethodId} {below : List Frame} {meth : Method} {c : Code} (l : Launch) {b L : Nat} {xs : Nat → Int32} (hL : L ≤ 2560) (C0 : lw_At p s m meth c b L xs) : W p l e room_1 s m #[Value.ref b] below meth c s.heap [] 0 0 (lw_Z below #[Value.ref b] s) (entryFrame m ([Value.ref b] : List Value).toArray 4) := by
  obtain ⟨hx, hb, hr, hml, hown, hts, hX, hbl, hlocks, hgv⟩ := id C0
  have hown : s.vm.findClass RL = some m.cls := hown
  have hA : ∀ q : Nat, s.heap.size ≤ q → (fun q : Nat => s.heap.size ≤ q) q := fun _ h => h
  have hbA : ¬ (fun q : Nat => s.heap.size ≤ q) b := Nat.not_le.mpr hbl
  have hRc : room_1.cells = 600000 := rfl
  have hRs : room_1.slots = 7302250 := rfl
  obtain ⟨c0, iS0, hKn0⟩ := u_known (C := RX0) (T := TX0) (N := 1) (n := 1) hts miL_law_X0 (hts _ mbL_law_1)
  obtain ⟨c1, iS1, hKn1⟩ := u_known (C := RX1) (T := TX1) (N := 8) (n := 8) hts miL_law_X1 (hts _ mbL_law_3)
  obtain ⟨c2, iS2, hKn2⟩ := u_known (C := RX2) (T := TX2) (N := 10) (n := 10) hts miL_law_X2 (hts _ mbL_law_5)
  obtain ⟨dC, dI, hKc⟩ : ∃ (dC : Nat → ClassId) (dI : Nat → Nat → Nat), ∀ (k : Nat) (q : vw_C), vwCl[k]? = some q → u_Kn s q.1 q.2.1 q.2.2 (dC k) (dI k) := by
    refine ⟨fun k => if k = 0 then c0 else if k = 1 then c1 else c2, fun k => if k = 0 then iS0 else if k = 1 then iS1 else iS2, ?_⟩
    intro k q hq
    match k, hq with
    | 0, hq => cases hq; exact hKn0
    | 1, hq => cases hq; exact hKn1
    | 2, hq => cases hq; exact hKn2
    | k + 3, hq => simp [vwCl] at hq
  have hZ : ag_O .int s := hts _ mbL_law_6
  have hN : va_Nw (.methodLinkNest RX1 11 yX0_init "SoftMaps") s := va_Nw.of rfl (hts _ mbL_law_7)
  have hS : va_S (fun q : Nat => s.heap.size ≤ q) s.heap s.heap [] := va_S.rf
  have hK : va_K (dC, dI) vwCl [] s := ⟨hKc, fun k q h => by simp at h⟩
  have hP : va_P (dC, dI) vwCl [] s.heap := fun k q h => by simp at h
  have hD : va_D (fun q : Nat => s.heap.size ≤ q) [] := ⟨fun i j p q h => by simp at h, fun k q h => by simp at h⟩
  have hl := lv_entry ([.ref b]) (n := 4) (Nat.le_of_ble_eq_true rfl)
  rw [lg_entry_eq]
  generalize (lg_sl ([.ref b]) ++ List.replicate (4 - (lg_sl ([.ref b])).length) Slot.unset).toArray = ls at hl ⊢
  have hl : lv_has ls 4 [(0, .ref b)] := hl
  refine va_new (ci := 1) (fs := [.null, .null, .int 0, .int 0, .int 0, .int 0, .int 0, .int 0]) (C := RX1) (T := TX1) (N := 8) hx hb hts miL_law_X1 tyX1 tyX1_ok hown (hts _ mbL_law_8) (hts _ mbL_law_3) (hts _ mbL_law_9) hK hP hD hS hA rfl (fun j hj => by rcases (show j = 0 ∨ j = 1 ∨ j = 2 ∨ j = 3 ∨ j = 4 ∨ j = 5 ∨ j = 6 ∨ j = 7 by omega) with rfl | rfl | rfl | rfl | rfl | rfl | rfl | rfl <;> rfl) (Nat.le_of_ble_eq_true rfl) (Nat.le_of_ble_eq_true rfl) dL_law_0 (fun q_1 H hP hD hS => ?_)
  have hP : va_P (dC, dI) vwCl [(q_1, .inr (1, [.null, .null, .int 0, .int 0, .int 0, .int 0, .int 0, .int 0]))] H := hP
  have hD : va_D (fun q : Nat => s.heap.size ≤ q) [(q_1, .inr (1, [.null, .null, .int 0, .int 0, .int 0, .int 0, .int 0, .int 0]))] := hD
  refine W.widen (k := 1) (n := 8) (by omega) (by omega) ?_
  refine lv_dup hx hb dL_law_3 rfl ?_
  have hPc := hP.sub (ws' := [(q_1, .inr (1, [.null, .null, .int 0, .int 0, .int 0, .int 0, .int 0, .int 0]))]) [0] rfl
  have hDc := hD.sub (ws' := [(q_1, .inr (1, [.null, .null, .int 0, .int 0, .int 0, .int 0, .int 0, .int 0]))]) [0] (by decide) rfl
  have hFc := va_free (wc := [(q_1, .inr (1, [.null, .null, .int 0, .int 0, .int 0, .int 0, .int 0, .int 0]))]) hD hS hA [0] rfl
  have hKc := hK.sub (tys' := []) [] rfl
  refine va_callv (va_runI (As := []) (rest := [.ref q_1]) ⟨hx, hb, hml, hown, hts⟩ (c_X1_init l dC dI (H.size) q_1) (cwI 0 hts gL_X1_init rfl rfl rfl (hts _ mbL_law_9) (hts _ mbL_law_10) (hts _ mbL_law_11) rfl (by decide +kernel) ⟨Nat.le_of_ble_eq_true rfl, Nat.le_of_ble_eq_true rfl⟩) ⟨fun a U g mk q => by obtain ⟨q0, q1, qP, qK, qD, q7, q8⟩ := q; exact ⟨q0, q1, qP, va_K.moved (u := U) (U := U.calling g mk a) (Vm.Alike.refl U.vm) qK, qD, ag_O.moved (Vm.Alike.refl U.vm) q7, va_Nw.same rfl rfl q8⟩, fun U hU hW => ⟨rfl, by rw [hU], by rw [hU]; exact hPc, va_K.moved hW.alike hKc, hDc.weaken (fun _ _ _ _ => trivial), hZ.moved hW.alike, va_Nw.warmM hW hN⟩⟩ rfl rfl hl.1 rfl (lv_room (Nat.le_of_ble_eq_true rfl)) dL_law_4 ⟨Nat.le_of_ble_eq_true rfl, Nat.le_of_ble_eq_true rfl⟩) hS (fun q _ h => hFc q h) hFc (fun u_4 t H1 locs ht hvm hw_3 hB hz1 hk1 hS => ?_)
  obtain ⟨me, pg, cP, sp, cI⟩ := u_4
  obtain ⟨hP1, hK1, hD1⟩ := hB
  rw [ht] at hP1
  obtain ⟨hP, hD⟩ := va_join (wr := []) (w1 := [(q_1, .inr (1, [.ref me, .ref sp, .int 0, .int 0, .int 0, .int 0, .int 0, .int 0])), (sp, .inl (cI, 33, .inl (fun _ => 0))), (me, .inr (0, [.ref pg])), (pg, .inl (cP, 64, .inr (.inr (.inr (.inr (fun _ => none))))))]) hP hD [0] [] rfl rfl (by decide) (by decide) hk1 hFc hP1 hD1
  generalize H1 = H at hP hS ⊢
  have hK := hK.app ((va_K.moved hvm.symm hK1).sub (tys' := [(cI, .int), (cP, .array .int)]) [0, 1] rfl)
  have hK : va_K (dC, dI) vwCl [(cI, .int), (cP, .array .int)] s := hK
  have hP : va_P (dC, dI) vwCl [(q_1, .inr (1, [.ref me, .ref sp, .int 0, .int 0, .int 0, .int 0, .int 0, .int 0])), (sp, .inl (cI, 33, .inl (fun _ => 0))), (me, .inr (0, [.ref pg])), (pg, .inl (cP, 64, .inr (.inr (.inr (.inr (fun _ => none))))))] H := hP
  have hD : va_D (fun q : Nat => s.heap.size ≤ q) [(q_1, .inr (1, [.ref me, .ref sp, .int 0, .int 0, .int 0, .int 0, .int 0, .int 0])), (sp, .inl (cI, 33, .inl (fun _ => 0))), (me, .inr (0, [.ref pg])), (pg, .inl (cP, 64, .inr (.inr (.inr (.inr (fun _ => none))))))] := hD
  refine W.widen (k := 4) (n := 106) (by omega) (by omega) ?_
  refine lv_astore_n (lv' := [(1, .ref q_1), (0, .ref b)]) hx hb dL_law_7 rfl hl (by decide) rfl (fun ls hl => ?_)
  refine va_new (ci := 2) (fs := [.int 0, .null, .null, .int 0, .int 0, .int 0, .int 0, .int 0, .int 0, .int 0]) (C := RX2) (T := TX2) (N := 10) hx hb hts miL_law_X2 tyX2 tyX2_ok hown (hts _ mbL_law_12) (hts _ mbL_law_5) (hts _ mbL_law_13) hK hP hD hS hA rfl (fun j hj => by rcases (show j = 0 ∨ j = 1 ∨ j = 2 ∨ j = 3 ∨ j = 4 ∨ j = 5 ∨ j = 6 ∨ j = 7 ∨ j = 8 ∨ j = 9 by omega) with rfl | rfl | rfl | rfl | rfl | rfl | rfl | rfl | rfl | rfl <;> rfl) (Nat.le_of_ble_eq_true rfl) (Nat.le_of_ble_eq_true rfl) dL_law_8 (fun q_5 H hP hD hS => ?_)
  have hP : va_P (dC, dI) vwCl [(q_1, .inr (1, [.ref me, .ref sp, .int 0, .int 0, .int 0, .int 0, .int 0, .int 0])), (sp, .inl (cI, 33, .inl (fun _ => 0))), (me, .inr (0, [.ref pg])), (pg, .inl (cP, 64, .inr (.inr (.inr (.inr (fun _ => none)))))), (q_5, .inr (2, [.int 0, .null, .null, .int 0, .int 0, .int 0, .int 0, .int 0, .int 0, .int 0]))] H := hP
  have hD : va_D (fun q : Nat => s.heap.size ≤ q) [(q_1, .inr (1, [.ref me, .ref sp, .int 0, .int 0, .int 0, .int 0, .int 0, .int 0])), (sp, .inl (cI, 33, .inl (fun _ => 0))), (me, .inr (0, [.ref pg])), (pg, .inl (cP, 64, .inr (.inr (.inr (.inr (fun _ => none)))))), (q_5, .inr (2, [.int 0, .null, .null, .int 0, .int 0, .int 0, .int 0, .int 0, .int 0, .int 0]))] := hD
  refine W.widen (k := 5) (n := 116) (by omega) (by omega) ?_
  refine lv_dup hx hb dL_law_11 rfl ?_
  have hPc := hP.sub (ws' := [(q_5, .inr (2, [.int 0, .null, .null, .int 0, .int 0, .int 0, .int 0, .int 0, .int 0, .int 0]))]) [4] rfl
  have hDc := hD.sub (ws' := [(q_5, .inr (2, [.int 0, .null, .null, .int 0, .int 0, .int 0, .int 0, .int 0, .int 0, .int 0]))]) [4] (by decide) rfl
  have hFc := va_free (wc := [(q_5, .inr (2, [.int 0, .null, .null, .int 0, .int 0, .int 0, .int 0, .int 0, .int 0, .int 0]))]) hD hS hA [4] rfl
  have hKc := hK.sub (tys' := []) [] rfl
  refine va_callv (va_runI (As := []) (rest := [.ref q_5]) ⟨hx, hb, hml, hown, hts⟩ (c_M_init l dC dI (H.size) q_5) (cwI 0 hts gL_M_init rfl rfl rfl (hts _ mbL_law_13) (hts _ mbL_law_14) (hts _ mbL_law_15) rfl (by decide +kernel) ⟨Nat.le_of_ble_eq_true rfl, Nat.le_of_ble_eq_true rfl⟩) ⟨fun a U g mk q => by obtain ⟨q0, q1, qP, qK, qD⟩ := q; exact ⟨q0, q1, qP, va_K.moved (u := U) (U := U.calling g mk a) (Vm.Alike.refl U.vm) qK, qD⟩, fun U hU hW => ⟨rfl, by rw [hU], by rw [hU]; exact hPc, va_K.moved hW.alike hKc, hDc.weaken (fun _ _ _ _ => trivial)⟩⟩ rfl rfl hl.1 rfl (lv_room (Nat.le_of_ble_eq_true rfl)) dL_law_12 ⟨Nat.le_of_ble_eq_true rfl, Nat.le_of_ble_eq_true rfl⟩) hS (fun q _ h => hFc q h) hFc (fun u_8 t H1 locs ht hvm hw_7 hB hz1 hk1 hS => ?_)
  obtain ⟨yb, zb, cJ⟩ := u_8
  obtain ⟨hP1, hK1, hD1⟩ := hB
  rw [ht] at hP1
  obtain ⟨hP, hD⟩ := va_join (wr := [(q_1, .inr (1, [.ref me, .ref sp, .int 0, .int 0, .int 0, .int 0, .int 0, .int 0])), (sp, .inl (cI, 33, .inl (fun _ => 0))), (me, .inr (0, [.ref pg])), (pg, .inl (cP, 64, .inr (.inr (.inr (.inr (fun _ => none))))))]) (w1 := [(q_5, .inr (2, [.int 0, .ref yb, .ref zb, .int 0, .int 0, .int 0, .int 0, .int 0, .int 0, .int 0])), (yb, .inl (cJ, 65536, .inl (fun _ => 0))), (zb, .inl (cJ, 33, .inl (fun _ => 0)))]) hP hD [4] [0, 1, 2, 3] rfl rfl (by decide) (by decide) hk1 hFc hP1 hD1
  generalize H1 = H at hP hS ⊢
  have hK := hK.app ((va_K.moved hvm.symm hK1).sub (tys' := [(cJ, .int)]) [0] rfl)
  have hK : va_K (dC, dI) vwCl [(cI, .int), (cP, .array .int), (cJ, .int)] s := hK
  have hP : va_P (dC, dI) vwCl [(q_1, .inr (1, [.ref me, .ref sp, .int 0, .int 0, .int 0, .int 0, .int 0, .int 0])), (sp, .inl (cI, 33, .inl (fun _ => 0))), (me, .inr (0, [.ref pg])), (pg, .inl (cP, 64, .inr (.inr (.inr (.inr (fun _ => none)))))), (q_5, .inr (2, [.int 0, .ref yb, .ref zb, .int 0, .int 0, .int 0, .int 0, .int 0, .int 0, .int 0])), (yb, .inl (cJ, 65536, .inl (fun _ => 0))), (zb, .inl (cJ, 33, .inl (fun _ => 0)))] H := hP
  have hD : va_D (fun q : Nat => s.heap.size ≤ q) [(q_1, .inr (1, [.ref me, .ref sp, .int 0, .int 0, .int 0, .int 0, .int 0, .int 0])), (sp, .inl (cI, 33, .inl (fun _ => 0))), (me, .inr (0, [.ref pg])), (pg, .inl (cP, 64, .inr (.inr (.inr (.inr (fun _ => none)))))), (q_5, .inr (2, [.int 0, .ref yb, .ref zb, .int 0, .int 0, .int 0, .int 0, .int 0, .int 0, .int 0])), (yb, .inl (cJ, 65536, .inl (fun _ => 0))), (zb, .inl (cJ, 33, .inl (fun _ => 0)))] := hD
  refine W.widen (k := 7) (n := 65685) (by omega) (by omega) ?_
  refine lv_astore_n (lv' := [(2, .ref q_5), (1, .ref q_1), (0, .ref b)]) hx hb dL_law_15 rfl hl (by decide) rfl (fun ls hl => ?_)
  refine lv_iconst (v := 0) hx hb dL_law_16 (by decide) ?_
  refine lv_istore_n (lv' := [(3, .int 0), (2, .ref q_5), (1, .ref q_1), (0, .ref b)]) hx hb dL_law_17 rfl hl (by decide) rfl (fun ls hl => ?_)
  -- world: ['q_1', 'sp', 'me', 'pg', 'q_5', 'yb', 'zb']
  have hP := hP.sub (ws' := [(q_1, .inr (1, [.ref me, .ref sp, .int 0, .int 0, .int 0, .int 0, .int 0, .int 0])), (sp, .inl (cI, 33, .inl (fun _ => 0))), (me, .inr (0, [.ref pg])), (pg, .inl (cP, 64, .inr (.inr (.inr (.inr (fun _ => none)))))), (q_5, .inr (2, [.int 0, .ref yb, .ref zb, .int 0, .int 0, .int 0, .int 0, .int 0, .int 0, .int 0])), (yb, .inl (cJ, 65536, .inl (fun _ => 0))), (zb, .inl (cJ, 33, .inl (fun _ => 0)))]) [0, 1, 2, 3, 4, 5, 6] rfl
  have hD := hD.sub (ws' := [(q_1, .inr (1, [.ref me, .ref sp, .int 0, .int 0, .int 0, .int 0, .int 0, .int 0])), (sp, .inl (cI, 33, .inl (fun _ => 0))), (me, .inr (0, [.ref pg])), (pg, .inl (cP, 64, .inr (.inr (.inr (.inr (fun _ => none)))))), (q_5, .inr (2, [.int 0, .ref yb, .ref zb, .int 0, .int 0, .int 0, .int 0, .int 0, .int 0, .int 0])), (yb, .inl (cJ, 65536, .inl (fun _ => 0))), (zb, .inl (cJ, 33, .inl (fun _ => 0)))]) [0, 1, 2, 3, 4, 5, 6] (by decide) rfl
  have hK := hK.sub (tys' := [(cI, .int), (cP, .array .int), (cJ, .int)]) [0, 1, 2] rfl
  have hbr : brel (mw (fun _ => none) (fun _ _ => 0)) (fun _ => 0) := brel_c (fun k _ => mw_none rfl) brel_0
  have hqq : md_ok (fun _ => 0) := ⟨0, by decide, rfl⟩
  exact law_loop hL C0 q_1 me sp pg q_5 yb zb cI cP cJ hK hZ (L + 6) 0 7 65685 (by omega) (by omega) (by omega) (by omega) (fun _ => 0) 0 0 0 0 0 0 (fun _ => none) [] (fun _ _ => 0) (fun _ => 0) 0 0 _ _ ls mok_0 hqq hbr hP hD hS (lv_sub hl [0, 1, 2, 3] rfl)
