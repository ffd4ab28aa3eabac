set_option maxHeartbeats 4000000 in
set_option maxRecDepth 100000 in
theorem op_5 {p : Program} {l : Launch} {e : Env} {s : State} {m : MethodId} {below : List Frame} {meth : Method} {c : Code} {dC : Nat → ClassId} {dI : Nat → Nat → Nat} {b L : Nat} {xs : Nat → Int32} (hL : L ≤ 2560) (C0 : lw_At p s m meth c b L xs) (h0 me sp pg k0 yb zb : Nat) (cI cP cJ : ClassId) (hK : va_K (dC, dI) vwCl [(cI, .int), (cP, .array .int), (cJ, .int)] s) (hZ : ag_O .int s) (i : Nat) (hi : i + 5 ≤ L) (kc ks : Nat) (hkc : kc + 1 ≤ 600000) (hks : ks + 256 ≤ 7302250) (f : Nat → Int32) (fa fl fd cr lo so : Int32) (g : Nat → Option Nat) (LP : List Nat) (r : Nat → Nat → Int32) (y : Nat → Int32) (th fo : Int32) : ∀ (H : Heap) (locs : List Loc) (ls : Array Slot), mok g LP → md_ok f → brel (mw g r) y → va_P (dC, dI) vwCl ([(h0, .inr (1, [.ref me, .ref sp, .int fa, .int fl, .int fd, .int cr, .int lo, .int so])), (sp, .inl (cI, 33, .inl f)), (me, .inr (0, [.ref pg])), (pg, .inl (cP, 64, .inr (.inr (.inr (.inr g))))), (k0, .inr (2, [.int th, .ref yb, .ref zb, .int fa, .int fl, .int fd, .int cr, .int lo, .int so, .int fo])), (yb, .inl (cJ, 65536, .inl y)), (zb, .inl (cJ, 33, .inl f))] ++ va_pl LP (prow cI r)) H → va_D (fun q : Nat => s.heap.size ≤ q) ([(h0, .inr (1, [.ref me, .ref sp, .int fa, .int fl, .int fd, .int cr, .int lo, .int so])), (sp, .inl (cI, 33, .inl f)), (me, .inr (0, [.ref pg])), (pg, .inl (cP, 64, .inr (.inr (.inr (.inr g))))), (k0, .inr (2, [.int th, .ref yb, .ref zb, .int fa, .int fl, .int fd, .int cr, .int lo, .int so, .int fo])), (yb, .inl (cJ, 65536, .inl y)), (zb, .inl (cJ, 33, .inl f))] ++ va_pl LP (prow cI r)) → va_S (fun q : Nat => s.heap.size ≤ q) s.heap H locs → lv_has ls 4 [(3, .int (nI i)), (2, .ref k0), (1, .ref h0), (0, .ref b)] → (∀ (H : Heap) (locs : List Loc) (ls : Array Slot) (f : Nat → Int32) (fa fl fd cr lo so : Int32) (g : Nat → Option Nat) (LP : List Nat) (r : Nat → Nat → Int32) (y : Nat → Int32) (th fo : Int32), mok g LP → md_ok f → brel (mw g r) y → va_P (dC, dI) vwCl ([(h0, .inr (1, [.ref me, .ref sp, .int fa, .int fl, .int fd, .int cr, .int lo, .int so])), (sp, .inl (cI, 33, .inl f)), (me, .inr (0, [.ref pg])), (pg, .inl (cP, 64, .inr (.inr (.inr (.inr g))))), (k0, .inr (2, [.int th, .ref yb, .ref zb, .int fa, .int fl, .int fd, .int cr, .int lo, .int so, .int fo])), (yb, .inl (cJ, 65536, .inl y)), (zb, .inl (cJ, 33, .inl f))] ++ va_pl LP (prow cI r)) H → va_D (fun q : Nat => s.heap.size ≤ q) ([(h0, .inr (1, [.ref me, .ref sp, .int fa, .int fl, .int fd, .int cr, .int lo, .int so])), (sp, .inl (cI, 33, .inl f)), (me, .inr (0, [.ref pg])), (pg, .inl (cP, 64, .inr (.inr (.inr (.inr g))))), (k0, .inr (2, [.int th, .ref yb, .ref zb, .int fa, .int fl, .int fd, .int cr, .int lo, .int so, .int fo])), (yb, .inl (cJ, 65536, .inl y)), (zb, .inl (cJ, 33, .inl f))] ++ va_pl LP (prow cI r)) → va_S (fun q : Nat => s.heap.size ≤ q) s.heap H locs → lv_has ls 4 [(3, .int (nI i)), (2, .ref k0), (1, .ref h0), (0, .ref b)] → W p l e room_1 s m #[Value.ref b] below meth c H locs (kc + 1) (ks + 256) (lw_Z below #[Value.ref b] s) (F0 m 525 ls [])) → W p l e room_1 s m #[Value.ref b] below meth c H locs (kc) (ks) (lw_Z below #[Value.ref b] s) (F0 m 289 ls []) := by
  obtain ⟨hx, hb, hr, hml, hown, hts, hX, hbl, hlocks, hgv⟩ := id C0
  have hown : s.vm.findClass RL = some m.cls := hown
  have hA : ∀ q : Nat, s.heap.size ≤ q → (fun q : Nat => s.heap.size ≤ q) q := fun _ h => h
  have hbA : ¬ (fun q : Nat => s.heap.size ≤ q) b := Nat.not_le.mpr hbl
  have hRc : room_1.cells = 600000 := rfl
  have hRs : room_1.slots = 7302250 := rfl
  intro H locs ls hm hq hbr hP hD hS hl kk
  refine lv_aload_n hx hb dL_law_289 rfl (lv_at hl 2 rfl) ?_
  refine lv_aload_n hx hb dL_law_290 rfl (lv_at hl 3 rfl) ?_
  refine lv_iload_n hx hb dL_law_291 rfl (lv_at hl 0 rfl) ?_
  refine lv_iconst (v := 1) hx hb dL_law_292 (by decide) ?_
  refine lv_iadd hx hb dL_law_293 ?_
  refine va_sld hx hb hX hbl hbA hS (pk_in (i + 1) L (by omega) (show nI i + 1 = nI (i + 1) from nI_add i 1) (by omega)) dL_law_294 ?_
  refine lv_aload_n hx hb dL_law_295 rfl (lv_at hl 3 rfl) ?_
  refine lv_iload_n hx hb dL_law_296 rfl (lv_at hl 0 rfl) ?_
  refine lv_iconst (v := 2) hx hb dL_law_297 (by decide) ?_
  refine lv_iadd hx hb dL_law_298 ?_
  refine va_sld hx hb hX hbl hbA hS (pk_in (i + 2) L (by omega) (show nI i + 2 = nI (i + 2) from nI_add i 2) (by omega)) dL_law_299 ?_
  refine lv_aload_n hx hb dL_law_300 rfl (lv_at hl 3 rfl) ?_
  refine lv_iload_n hx hb dL_law_301 rfl (lv_at hl 0 rfl) ?_
  refine lv_iconst (v := 3) hx hb dL_law_302 (by decide) ?_
  refine lv_iadd hx hb dL_law_303 ?_
  refine va_sld hx hb hX hbl hbA hS (pk_in (i + 3) L (by omega) (show nI i + 3 = nI (i + 3) from nI_add i 3) (by omega)) dL_law_304 ?_
  refine lv_if_eq (tgt := 312) hx hb dL_law_305 (by decide) (fun c_1 => ?_) (fun c_1 => ?_)
  · skip
    refine lv_iconst (v := 0) hx hb dL_law_312 (by decide) ?_
    have hPc := hP.sub (ws' := [(h0, .inr (1, [.ref me, .ref sp, .int fa, .int fl, .int fd, .int cr, .int lo, .int so])), (sp, .inl (cI, 33, .inl f))]) [0, 1] rfl
    have hKc := hK.sub (tys' := [(cI, .int)]) [0] rfl
    refine vp_callSi (va_Run.run (va_runV (As := [.int (xs ((nI i) + 1).toNatClampNeg), .int (xs ((nI i) + 2).toNatClampNeg), .int 0]) (rest := []) ⟨hx, hb, hml, hown, hts⟩ (c_X1_find l dC dI h0 me sp cI f fa fl fd cr lo so (xs ((nI i) + 1).toNatClampNeg) (xs ((nI i) + 2).toNatClampNeg) 0) (cwV 3 hts gL_X1_find rfl rfl rfl (by decide +kernel) ⟨Nat.le_of_ble_eq_true rfl, Nat.le_of_ble_eq_true rfl⟩) ⟨fun a U g mk q => by obtain ⟨q0, qP, qK⟩ := q; exact ⟨q0, qP, va_K.moved (u := U) (U := U.calling g mk a) (Vm.Alike.refl U.vm) qK⟩, va_recv hKc hPc (ci := 1) (q0 := 0) rfl rfl, fun U hU hW => ⟨rfl, by rw [hU]; exact hPc, va_K.moved hW.alike hKc⟩⟩ rfl rfl hl.1 rfl (lv_room (Nat.le_of_ble_eq_true rfl)) dL_law_313 ⟨by rw [hRc]; omega, by rw [hRs]; omega⟩)) (fun r_2 hw_3 => ?_)
    subst hw_3
    refine lv_aload_n hx hb dL_law_316 rfl (lv_at hl 1 rfl) ?_
    refine lv_aload_n hx hb dL_law_317 rfl (lv_at hl 3 rfl) ?_
    refine lv_iload_n hx hb dL_law_318 rfl (lv_at hl 0 rfl) ?_
    refine lv_iconst (v := 1) hx hb dL_law_319 (by decide) ?_
    refine lv_iadd hx hb dL_law_320 ?_
    refine va_sld hx hb hX hbl hbA hS (pk_in (i + 1) L (by omega) (show nI i + 1 = nI (i + 1) from nI_add i 1) (by omega)) dL_law_321 ?_
    refine lv_aload_n hx hb dL_law_322 rfl (lv_at hl 3 rfl) ?_
    refine lv_iload_n hx hb dL_law_323 rfl (lv_at hl 0 rfl) ?_
    refine lv_iconst (v := 2) hx hb dL_law_324 (by decide) ?_
    refine lv_iadd hx hb dL_law_325 ?_
    refine va_sld hx hb hX hbl hbA hS (pk_in (i + 2) L (by omega) (show nI i + 2 = nI (i + 2) from nI_add i 2) (by omega)) dL_law_326 ?_
    refine lv_aload_n hx hb dL_law_327 rfl (lv_at hl 3 rfl) ?_
    refine lv_iload_n hx hb dL_law_328 rfl (lv_at hl 0 rfl) ?_
    refine lv_iconst (v := 3) hx hb dL_law_329 (by decide) ?_
    refine lv_iadd hx hb dL_law_330 ?_
    refine va_sld hx hb hX hbl hbA hS (pk_in (i + 3) L (by omega) (show nI i + 3 = nI (i + 3) from nI_add i 3) (by omega)) dL_law_331 ?_
    refine lv_if_eq (tgt := 339) hx hb dL_law_332 (by decide) (fun c_4 => ?_) (fun c_4 => ?_)
    · skip
      refine lv_iconst (v := 0) hx hb dL_law_339 (by decide) ?_
      have hPc := hP.sub (ws' := [(k0, .inr (2, [.int th, .ref yb, .ref zb, .int fa, .int fl, .int fd, .int cr, .int lo, .int so, .int fo])), (yb, .inl (cJ, 65536, .inl y)), (zb, .inl (cJ, 33, .inl f))]) [4, 5, 6] rfl
      have hDc := hD.sub (ws' := [(k0, .inr (2, [.int th, .ref yb, .ref zb, .int fa, .int fl, .int fd, .int cr, .int lo, .int so, .int fo])), (yb, .inl (cJ, 65536, .inl y)), (zb, .inl (cJ, 33, .inl f))]) [4, 5, 6] (by decide) rfl
      have hFc := va_free (wc := [(k0, .inr (2, [.int th, .ref yb, .ref zb, .int fa, .int fl, .int fd, .int cr, .int lo, .int so, .int fo])), (yb, .inl (cJ, 65536, .inl y)), (zb, .inl (cJ, 33, .inl f))]) hD hS hA [4, 5, 6] rfl
      have hKc := hK.sub (tys' := [(cJ, .int)]) [2] rfl
      refine va_calli (va_runV (As := [.int (xs ((nI i) + 1).toNatClampNeg), .int (xs ((nI i) + 2).toNatClampNeg), .int 0]) (rest := [.int (s_X1_find f (xs ((nI i) + 1).toNatClampNeg) (xs ((nI i) + 2).toNatClampNeg) 0)]) ⟨hx, hb, hml, hown, hts⟩ (c_M_find l dC dI (H.size) k0 yb zb cJ y f th fa fl fd cr lo so fo (xs ((nI i) + 1).toNatClampNeg) (xs ((nI i) + 2).toNatClampNeg) 0) (cwV 3 hts gL_M_find rfl rfl rfl (by decide +kernel) ⟨Nat.le_of_ble_eq_true rfl, Nat.le_of_ble_eq_true rfl⟩) ⟨fun a U g mk q => by obtain ⟨q0, q1, qP, qK, qD⟩ := q; exact ⟨q0, q1, qP, va_K.moved (u := U) (U := U.calling g mk a) (Vm.Alike.refl U.vm) qK, qD⟩, va_recv hKc hPc (ci := 2) (q0 := 0) rfl rfl, fun U hU hW => ⟨rfl, by rw [hU], by rw [hU]; exact hPc, va_K.moved hW.alike hKc, hDc.weaken (fun _ _ _ _ => trivial)⟩⟩ rfl rfl hl.1 rfl (lv_room (Nat.le_of_ble_eq_true rfl)) dL_law_340 ⟨by rw [hRc]; omega, by rw [hRs]; omega⟩) hS (fun q _ h => hFc q h) hFc (fun r_5 u_7 t H1 locs ht hvm hw_6 hB hz1 hk1 hS => ?_)
      have e1_ : r_5 = (s_M_find f fo (xs ((nI i) + 1).toNatClampNeg) (xs ((nI i) + 2).toNatClampNeg) 0).1 := congrArg Prod.fst hw_6
      have e2_ : u_7 = (s_M_find f fo (xs ((nI i) + 1).toNatClampNeg) (xs ((nI i) + 2).toNatClampNeg) 0).2 := congrArg Prod.snd hw_6
      subst e1_ e2_
      obtain ⟨hP1, hK1, hD1⟩ := hB
      rw [ht] at hP1
      obtain ⟨hP, hD⟩ := va_joinQ (X := [(h0, .inr (1, [.ref me, .ref sp, .int fa, .int fl, .int fd, .int cr, .int lo, .int so])), (sp, .inl (cI, 33, .inl f)), (me, .inr (0, [.ref pg])), (pg, .inl (cP, 64, .inr (.inr (.inr (.inr g))))), (k0, .inr (2, [.int th, .ref yb, .ref zb, .int fa, .int fl, .int fd, .int cr, .int lo, .int so, .int fo])), (yb, .inl (cJ, 65536, .inl y)), (zb, .inl (cJ, 33, .inl f))]) (cx := [(k0, .inr (2, [.int th, .ref yb, .ref zb, .int fa, .int fl, .int fd, .int cr, .int lo, .int so, .int fo])), (yb, .inl (cJ, 65536, .inl y)), (zb, .inl (cJ, 33, .inl f))]) (wr := [(h0, .inr (1, [.ref me, .ref sp, .int fa, .int fl, .int fd, .int cr, .int lo, .int so])), (sp, .inl (cI, 33, .inl f)), (me, .inr (0, [.ref pg])), (pg, .inl (cP, 64, .inr (.inr (.inr (.inr g)))))]) (w1 := [(k0, .inr (2, [.int ((s_M_find f fo (xs ((nI i) + 1).toNatClampNeg) (xs ((nI i) + 2).toNatClampNeg) 0).2.1), .ref yb, .ref zb, .int fa, .int fl, .int fd, .int cr, .int lo, .int so, .int ((s_M_find f fo (xs ((nI i) + 1).toNatClampNeg) (xs ((nI i) + 2).toNatClampNeg) 0).2.2)])), (yb, .inl (cJ, 65536, .inl y)), (zb, .inl (cJ, 33, .inl f))]) hP hD [4, 5, 6] [0, 1, 2, 3] rfl rfl (by decide) (by decide) hk1 hFc hP1 hD1
      generalize H1 = H at hP hS ⊢
      have hP : va_P (dC, dI) vwCl ([(h0, .inr (1, [.ref me, .ref sp, .int fa, .int fl, .int fd, .int cr, .int lo, .int so])), (sp, .inl (cI, 33, .inl f)), (me, .inr (0, [.ref pg])), (pg, .inl (cP, 64, .inr (.inr (.inr (.inr g))))), (k0, .inr (2, [.int ((s_M_find f fo (xs ((nI i) + 1).toNatClampNeg) (xs ((nI i) + 2).toNatClampNeg) 0).2.1), .ref yb, .ref zb, .int fa, .int fl, .int fd, .int cr, .int lo, .int so, .int ((s_M_find f fo (xs ((nI i) + 1).toNatClampNeg) (xs ((nI i) + 2).toNatClampNeg) 0).2.2)])), (yb, .inl (cJ, 65536, .inl y)), (zb, .inl (cJ, 33, .inl f))] ++ va_pl LP (prow cI r)) H := hP
      have hD : va_D (fun q : Nat => s.heap.size ≤ q) ([(h0, .inr (1, [.ref me, .ref sp, .int fa, .int fl, .int fd, .int cr, .int lo, .int so])), (sp, .inl (cI, 33, .inl f)), (me, .inr (0, [.ref pg])), (pg, .inl (cP, 64, .inr (.inr (.inr (.inr g))))), (k0, .inr (2, [.int ((s_M_find f fo (xs ((nI i) + 1).toNatClampNeg) (xs ((nI i) + 2).toNatClampNeg) 0).2.1), .ref yb, .ref zb, .int fa, .int fl, .int fd, .int cr, .int lo, .int so, .int ((s_M_find f fo (xs ((nI i) + 1).toNatClampNeg) (xs ((nI i) + 2).toNatClampNeg) 0).2.2)])), (yb, .inl (cJ, 65536, .inl y)), (zb, .inl (cJ, 33, .inl f))] ++ va_pl LP (prow cI r)) := hD
      obtain ⟨fo1, hE⟩ := find_eq hq fo (xs ((nI i) + 1).toNatClampNeg) (xs ((nI i) + 2).toNatClampNeg) 0
      rw [hE] at hP hD ⊢
      have hP : va_P (dC, dI) vwCl ([(h0, .inr (1, [.ref me, .ref sp, .int fa, .int fl, .int fd, .int cr, .int lo, .int so])), (sp, .inl (cI, 33, .inl f)), (me, .inr (0, [.ref pg])), (pg, .inl (cP, 64, .inr (.inr (.inr (.inr g))))), (k0, .inr (2, [.int 0, .ref yb, .ref zb, .int fa, .int fl, .int fd, .int cr, .int lo, .int so, .int fo1])), (yb, .inl (cJ, 65536, .inl y)), (zb, .inl (cJ, 33, .inl f))] ++ va_pl LP (prow cI r)) H := hP
      have hD : va_D (fun q : Nat => s.heap.size ≤ q) ([(h0, .inr (1, [.ref me, .ref sp, .int fa, .int fl, .int fd, .int cr, .int lo, .int so])), (sp, .inl (cI, 33, .inl f)), (me, .inr (0, [.ref pg])), (pg, .inl (cP, 64, .inr (.inr (.inr (.inr g))))), (k0, .inr (2, [.int 0, .ref yb, .ref zb, .int fa, .int fl, .int fd, .int cr, .int lo, .int so, .int fo1])), (yb, .inl (cJ, 65536, .inl y)), (zb, .inl (cJ, 33, .inl f))] ++ va_pl LP (prow cI r)) := hD
      refine W.eq (g2 := F0 m 343 ls [.int (s_X1_find f (xs ((nI i) + 1).toNatClampNeg) (xs ((nI i) + 2).toNatClampNeg) 0), .int (s_X1_find f (xs ((nI i) + 1).toNatClampNeg) (xs ((nI i) + 2).toNatClampNeg) 0)]) rfl ?_
      have heq : s_X1_find f (xs ((nI i) + 1).toNatClampNeg) (xs ((nI i) + 2).toNatClampNeg) 0 = s_X1_find f (xs ((nI i) + 1).toNatClampNeg) (xs ((nI i) + 2).toNatClampNeg) 0 := rfl
      refine lv_icmp_eq (tgt := 525) hx hb dL_law_343 (by decide) (fun c_8 => ?_) (fun c_8 => ?_)
      · skip
        refine W.widen (k := kc + 1) (n := ks + 256) (by omega) (by omega) ?_
        exact kk _ _ ls f fa fl fd cr lo so g LP r y 0 fo1 hm hq hbr hP hD hS (lv_sub hl [0, 1, 2, 3] rfl)
      · exact absurd heq c_8
    · exact absurd c_1 c_4
  · skip
    refine lv_iconst (v := 1) hx hb dL_law_308 (by decide) ?_
    refine lv_goto (tgt := 313) hx hb dL_law_309 (by decide) ?_
    have hPc := hP.sub (ws' := [(h0, .inr (1, [.ref me, .ref sp, .int fa, .int fl, .int fd, .int cr, .int lo, .int so])), (sp, .inl (cI, 33, .inl f))]) [0, 1] rfl
    have hKc := hK.sub (tys' := [(cI, .int)]) [0] rfl
    refine vp_callSi (va_Run.run (va_runV (As := [.int (xs ((nI i) + 1).toNatClampNeg), .int (xs ((nI i) + 2).toNatClampNeg), .int 1]) (rest := []) ⟨hx, hb, hml, hown, hts⟩ (c_X1_find l dC dI h0 me sp cI f fa fl fd cr lo so (xs ((nI i) + 1).toNatClampNeg) (xs ((nI i) + 2).toNatClampNeg) 1) (cwV 3 hts gL_X1_find rfl rfl rfl (by decide +kernel) ⟨Nat.le_of_ble_eq_true rfl, Nat.le_of_ble_eq_true rfl⟩) ⟨fun a U g mk q => by obtain ⟨q0, qP, qK⟩ := q; exact ⟨q0, qP, va_K.moved (u := U) (U := U.calling g mk a) (Vm.Alike.refl U.vm) qK⟩, va_recv hKc hPc (ci := 1) (q0 := 0) rfl rfl, fun U hU hW => ⟨rfl, by rw [hU]; exact hPc, va_K.moved hW.alike hKc⟩⟩ rfl rfl hl.1 rfl (lv_room (Nat.le_of_ble_eq_true rfl)) dL_law_313 ⟨by rw [hRc]; omega, by rw [hRs]; omega⟩)) (fun r_9 hw_10 => ?_)
    subst hw_10
    refine lv_aload_n hx hb dL_law_316 rfl (lv_at hl 1 rfl) ?_
    refine lv_aload_n hx hb dL_law_317 rfl (lv_at hl 3 rfl) ?_
    refine lv_iload_n hx hb dL_law_318 rfl (lv_at hl 0 rfl) ?_
    refine lv_iconst (v := 1) hx hb dL_law_319 (by decide) ?_
    refine lv_iadd hx hb dL_law_320 ?_
    refine va_sld hx hb hX hbl hbA hS (pk_in (i + 1) L (by omega) (show nI i + 1 = nI (i + 1) from nI_add i 1) (by omega)) dL_law_321 ?_
    refine lv_aload_n hx hb dL_law_322 rfl (lv_at hl 3 rfl) ?_
    refine lv_iload_n hx hb dL_law_323 rfl (lv_at hl 0 rfl) ?_
    refine lv_iconst (v := 2) hx hb dL_law_324 (by decide) ?_
    refine lv_iadd hx hb dL_law_325 ?_
    refine va_sld hx hb hX hbl hbA hS (pk_in (i + 2) L (by omega) (show nI i + 2 = nI (i + 2) from nI_add i 2) (by omega)) dL_law_326 ?_
    refine lv_aload_n hx hb dL_law_327 rfl (lv_at hl 3 rfl) ?_
    refine lv_iload_n hx hb dL_law_328 rfl (lv_at hl 0 rfl) ?_
    refine lv_iconst (v := 3) hx hb dL_law_329 (by decide) ?_
    refine lv_iadd hx hb dL_law_330 ?_
    refine va_sld hx hb hX hbl hbA hS (pk_in (i + 3) L (by omega) (show nI i + 3 = nI (i + 3) from nI_add i 3) (by omega)) dL_law_331 ?_
    refine lv_if_eq (tgt := 339) hx hb dL_law_332 (by decide) (fun c_11 => ?_) (fun c_11 => ?_)
    · exact absurd c_11 c_1
    · skip
      refine lv_iconst (v := 1) hx hb dL_law_335 (by decide) ?_
      refine lv_goto (tgt := 340) hx hb dL_law_336 (by decide) ?_
      have hPc := hP.sub (ws' := [(k0, .inr (2, [.int th, .ref yb, .ref zb, .int fa, .int fl, .int fd, .int cr, .int lo, .int so, .int fo])), (yb, .inl (cJ, 65536, .inl y)), (zb, .inl (cJ, 33, .inl f))]) [4, 5, 6] rfl
      have hDc := hD.sub (ws' := [(k0, .inr (2, [.int th, .ref yb, .ref zb, .int fa, .int fl, .int fd, .int cr, .int lo, .int so, .int fo])), (yb, .inl (cJ, 65536, .inl y)), (zb, .inl (cJ, 33, .inl f))]) [4, 5, 6] (by decide) rfl
      have hFc := va_free (wc := [(k0, .inr (2, [.int th, .ref yb, .ref zb, .int fa, .int fl, .int fd, .int cr, .int lo, .int so, .int fo])), (yb, .inl (cJ, 65536, .inl y)), (zb, .inl (cJ, 33, .inl f))]) hD hS hA [4, 5, 6] rfl
      have hKc := hK.sub (tys' := [(cJ, .int)]) [2] rfl
      refine va_calli (va_runV (As := [.int (xs ((nI i) + 1).toNatClampNeg), .int (xs ((nI i) + 2).toNatClampNeg), .int 1]) (rest := [.int (s_X1_find f (xs ((nI i) + 1).toNatClampNeg) (xs ((nI i) + 2).toNatClampNeg) 1)]) ⟨hx, hb, hml, hown, hts⟩ (c_M_find l dC dI (H.size) k0 yb zb cJ y f th fa fl fd cr lo so fo (xs ((nI i) + 1).toNatClampNeg) (xs ((nI i) + 2).toNatClampNeg) 1) (cwV 3 hts gL_M_find rfl rfl rfl (by decide +kernel) ⟨Nat.le_of_ble_eq_true rfl, Nat.le_of_ble_eq_true rfl⟩) ⟨fun a U g mk q => by obtain ⟨q0, q1, qP, qK, qD⟩ := q; exact ⟨q0, q1, qP, va_K.moved (u := U) (U := U.calling g mk a) (Vm.Alike.refl U.vm) qK, qD⟩, va_recv hKc hPc (ci := 2) (q0 := 0) rfl rfl, fun U hU hW => ⟨rfl, by rw [hU], by rw [hU]; exact hPc, va_K.moved hW.alike hKc, hDc.weaken (fun _ _ _ _ => trivial)⟩⟩ rfl rfl hl.1 rfl (lv_room (Nat.le_of_ble_eq_true rfl)) dL_law_340 ⟨by rw [hRc]; omega, by rw [hRs]; omega⟩) hS (fun q _ h => hFc q h) hFc (fun r_12 u_14 t H1 locs ht hvm hw_13 hB hz1 hk1 hS => ?_)
      have e1_ : r_12 = (s_M_find f fo (xs ((nI i) + 1).toNatClampNeg) (xs ((nI i) + 2).toNatClampNeg) 1).1 := congrArg Prod.fst hw_13
      have e2_ : u_14 = (s_M_find f fo (xs ((nI i) + 1).toNatClampNeg) (xs ((nI i) + 2).toNatClampNeg) 1).2 := congrArg Prod.snd hw_13
      subst e1_ e2_
      obtain ⟨hP1, hK1, hD1⟩ := hB
      rw [ht] at hP1
      obtain ⟨hP, hD⟩ := va_joinQ (X := [(h0, .inr (1, [.ref me, .ref sp, .int fa, .int fl, .int fd, .int cr, .int lo, .int so])), (sp, .inl (cI, 33, .inl f)), (me, .inr (0, [.ref pg])), (pg, .inl (cP, 64, .inr (.inr (.inr (.inr g))))), (k0, .inr (2, [.int th, .ref yb, .ref zb, .int fa, .int fl, .int fd, .int cr, .int lo, .int so, .int fo])), (yb, .inl (cJ, 65536, .inl y)), (zb, .inl (cJ, 33, .inl f))]) (cx := [(k0, .inr (2, [.int th, .ref yb, .ref zb, .int fa, .int fl, .int fd, .int cr, .int lo, .int so, .int fo])), (yb, .inl (cJ, 65536, .inl y)), (zb, .inl (cJ, 33, .inl f))]) (wr := [(h0, .inr (1, [.ref me, .ref sp, .int fa, .int fl, .int fd, .int cr, .int lo, .int so])), (sp, .inl (cI, 33, .inl f)), (me, .inr (0, [.ref pg])), (pg, .inl (cP, 64, .inr (.inr (.inr (.inr g)))))]) (w1 := [(k0, .inr (2, [.int ((s_M_find f fo (xs ((nI i) + 1).toNatClampNeg) (xs ((nI i) + 2).toNatClampNeg) 1).2.1), .ref yb, .ref zb, .int fa, .int fl, .int fd, .int cr, .int lo, .int so, .int ((s_M_find f fo (xs ((nI i) + 1).toNatClampNeg) (xs ((nI i) + 2).toNatClampNeg) 1).2.2)])), (yb, .inl (cJ, 65536, .inl y)), (zb, .inl (cJ, 33, .inl f))]) hP hD [4, 5, 6] [0, 1, 2, 3] rfl rfl (by decide) (by decide) hk1 hFc hP1 hD1
      generalize H1 = H at hP hS ⊢
      have hP : va_P (dC, dI) vwCl ([(h0, .inr (1, [.ref me, .ref sp, .int fa, .int fl, .int fd, .int cr, .int lo, .int so])), (sp, .inl (cI, 33, .inl f)), (me, .inr (0, [.ref pg])), (pg, .inl (cP, 64, .inr (.inr (.inr (.inr g))))), (k0, .inr (2, [.int ((s_M_find f fo (xs ((nI i) + 1).toNatClampNeg) (xs ((nI i) + 2).toNatClampNeg) 1).2.1), .ref yb, .ref zb, .int fa, .int fl, .int fd, .int cr, .int lo, .int so, .int ((s_M_find f fo (xs ((nI i) + 1).toNatClampNeg) (xs ((nI i) + 2).toNatClampNeg) 1).2.2)])), (yb, .inl (cJ, 65536, .inl y)), (zb, .inl (cJ, 33, .inl f))] ++ va_pl LP (prow cI r)) H := hP
      have hD : va_D (fun q : Nat => s.heap.size ≤ q) ([(h0, .inr (1, [.ref me, .ref sp, .int fa, .int fl, .int fd, .int cr, .int lo, .int so])), (sp, .inl (cI, 33, .inl f)), (me, .inr (0, [.ref pg])), (pg, .inl (cP, 64, .inr (.inr (.inr (.inr g))))), (k0, .inr (2, [.int ((s_M_find f fo (xs ((nI i) + 1).toNatClampNeg) (xs ((nI i) + 2).toNatClampNeg) 1).2.1), .ref yb, .ref zb, .int fa, .int fl, .int fd, .int cr, .int lo, .int so, .int ((s_M_find f fo (xs ((nI i) + 1).toNatClampNeg) (xs ((nI i) + 2).toNatClampNeg) 1).2.2)])), (yb, .inl (cJ, 65536, .inl y)), (zb, .inl (cJ, 33, .inl f))] ++ va_pl LP (prow cI r)) := hD
      obtain ⟨fo1, hE⟩ := find_eq hq fo (xs ((nI i) + 1).toNatClampNeg) (xs ((nI i) + 2).toNatClampNeg) 1
      rw [hE] at hP hD ⊢
      have hP : va_P (dC, dI) vwCl ([(h0, .inr (1, [.ref me, .ref sp, .int fa, .int fl, .int fd, .int cr, .int lo, .int so])), (sp, .inl (cI, 33, .inl f)), (me, .inr (0, [.ref pg])), (pg, .inl (cP, 64, .inr (.inr (.inr (.inr g))))), (k0, .inr (2, [.int 0, .ref yb, .ref zb, .int fa, .int fl, .int fd, .int cr, .int lo, .int so, .int fo1])), (yb, .inl (cJ, 65536, .inl y)), (zb, .inl (cJ, 33, .inl f))] ++ va_pl LP (prow cI r)) H := hP
      have hD : va_D (fun q : Nat => s.heap.size ≤ q) ([(h0, .inr (1, [.ref me, .ref sp, .int fa, .int fl, .int fd, .int cr, .int lo, .int so])), (sp, .inl (cI, 33, .inl f)), (me, .inr (0, [.ref pg])), (pg, .inl (cP, 64, .inr (.inr (.inr (.inr g))))), (k0, .inr (2, [.int 0, .ref yb, .ref zb, .int fa, .int fl, .int fd, .int cr, .int lo, .int so, .int fo1])), (yb, .inl (cJ, 65536, .inl y)), (zb, .inl (cJ, 33, .inl f))] ++ va_pl LP (prow cI r)) := hD
      refine W.eq (g2 := F0 m 343 ls [.int (s_X1_find f (xs ((nI i) + 1).toNatClampNeg) (xs ((nI i) + 2).toNatClampNeg) 1), .int (s_X1_find f (xs ((nI i) + 1).toNatClampNeg) (xs ((nI i) + 2).toNatClampNeg) 1)]) rfl ?_
      have heq : s_X1_find f (xs ((nI i) + 1).toNatClampNeg) (xs ((nI i) + 2).toNatClampNeg) 1 = s_X1_find f (xs ((nI i) + 1).toNatClampNeg) (xs ((nI i) + 2).toNatClampNeg) 1 := rfl
      refine lv_icmp_eq (tgt := 525) hx hb dL_law_343 (by decide) (fun c_15 => ?_) (fun c_15 => ?_)
      · skip
        refine W.widen (k := kc + 1) (n := ks + 256) (by omega) (by omega) ?_
        exact kk _ _ ls f fa fl fd cr lo so g LP r y 0 fo1 hm hq hbr hP hD hS (lv_sub hl [0, 1, 2, 3] rfl)
      · exact absurd heq c_15
