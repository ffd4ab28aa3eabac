set_option maxHeartbeats 4000000 in
set_option maxRecDepth 100000 in
theorem law_loop {p : Program} {l : Launch} {e : Env} {s : State} {m : MethodId} {below : List Frame} {meth : Method} {c : Code} {dC : Nat → ClassId} {dI : Nat → Nat → Nat} {b L : Nat} {xs : Nat → Int32} (hL : L ≤ 2560) (C0 : lw_At p s m meth c b L xs) (h0 me sp pg k0 yb zb : Nat) (cI cP cJ : ClassId) (hK : va_K (dC, dI) vwCl [(cI, .int), (cP, .array .int), (cJ, .int)] s) (hZ : ag_O .int s) : ∀ (n i kc ks : Nat), i ≤ L + 5 → L + 6 ≤ i + n → kc + n ≤ 600000 → ks + 256 * n ≤ 7302250 → ∀ (f : Nat → Int32) (fa fl fd cr lo so : Int32) (g : Nat → Option Nat) (LP : List Nat) (r : Nat → Nat → Int32) (y : Nat → Int32) (th fo : Int32) (H : Heap) (locs : List Loc) (ls : Array Slot), mok g LP → md_ok f → brel (mw g r) y → va_P (dC, dI) vwCl ([(h0, .inr (1, [.ref me, .ref sp, .int fa, .int fl, .int fd, .int cr, .int lo, .int so])), (sp, .inl (cI, 33, .inl f)), (me, .inr (0, [.ref pg])), (pg, .inl (cP, 64, .inr (.inr (.inr (.inr g))))), (k0, .inr (2, [.int th, .ref yb, .ref zb, .int fa, .int fl, .int fd, .int cr, .int lo, .int so, .int fo])), (yb, .inl (cJ, 65536, .inl y)), (zb, .inl (cJ, 33, .inl f))] ++ va_pl LP (prow cI r)) H → va_D (fun q : Nat => s.heap.size ≤ q) ([(h0, .inr (1, [.ref me, .ref sp, .int fa, .int fl, .int fd, .int cr, .int lo, .int so])), (sp, .inl (cI, 33, .inl f)), (me, .inr (0, [.ref pg])), (pg, .inl (cP, 64, .inr (.inr (.inr (.inr g))))), (k0, .inr (2, [.int th, .ref yb, .ref zb, .int fa, .int fl, .int fd, .int cr, .int lo, .int so, .int fo])), (yb, .inl (cJ, 65536, .inl y)), (zb, .inl (cJ, 33, .inl f))] ++ va_pl LP (prow cI r)) → va_S (fun q : Nat => s.heap.size ≤ q) s.heap H locs → lv_has ls 4 [(3, .int (nI i)), (2, .ref k0), (1, .ref h0), (0, .ref b)] → W p l e room_1 s m #[Value.ref b] below meth c H locs (kc) (ks) (lw_Z below #[Value.ref b] s) (F0 m 18 ls []) := by
  obtain ⟨hx, hb, hr, hml, hown, hts, hX, hbl, hlocks, hgv⟩ := id C0
  have hown : s.vm.findClass RL = some m.cls := hown
  have hA : ∀ q : Nat, s.heap.size ≤ q → (fun q : Nat => s.heap.size ≤ q) q := fun _ h => h
  have hbA : ¬ (fun q : Nat => s.heap.size ≤ q) b := Nat.not_le.mpr hbl
  have hRc : room_1.cells = 600000 := rfl
  have hRs : room_1.slots = 7302250 := rfl
  intro n
  induction n with
  | zero =>
    intro i kc ks h1 h2
    exact absurd h2 (by omega)
  | succ n ih =>
    intro i kc ks hin hi5 hkc hks f fa fl fd cr lo so g LP r y th fo H locs ls hm hq hbr hP hD hS hl
    refine lv_iload_n hx hb dL_law_18 rfl (lv_at hl 0 rfl) ?_
    refine lv_aload_n hx hb dL_law_19 rfl (lv_at hl 3 rfl) ?_
    refine va_slen hx hb hX hbl hbA hS dL_law_20 ?_
    refine lv_iconst (v := 5) hx hb dL_law_21 (by decide) ?_
    refine lv_isub hx hb dL_law_22 ?_
    have hc5 : ((Int32.ofNat L) - 5 < nI i) ↔ L < i + 5 := by
      have e5 : (Int32.ofNat L - 5).toInt = (L : Int) - 5 := pk_sub_toInt (a := L) (b := 5) (by omega) (by decide)
      rw [Int32.lt_iff_toInt_lt, e5, nI_toInt (by omega)]
      omega
    refine lv_icmp_gt (tgt := 531) hx hb dL_law_23 (by decide) (fun cz => ?_) (fun cz => ?_)
    · refine lv_iconst (v := 1) hx hb dL_law_531 (by decide) ?_
      refine va_forget (fun q hq => hS.2.2 q hq) ?_
      refine W.widen (k := 600000) (n := 7302250) (by omega) (by omega) ?_
      exact lw_ret hx hb hr hlocks dL_law_532
    · have hi : i + 5 ≤ L := by
        have hz : ¬ L < i + 5 := fun q => cz (hc5.mpr q)
        omega
      have hnx : ∀ (H : Heap) (locs : List Loc) (ls : Array Slot) (f : Nat → Int32) (fa fl fd cr lo so : Int32) (g : Nat → Option Nat) (LP : List Nat) (r : Nat → Nat → Int32) (y : Nat → Int32) (th fo : Int32), mok g LP → md_ok f → brel (mw g r) y → va_P (dC, dI) vwCl ([(h0, .inr (1, [.ref me, .ref sp, .int fa, .int fl, .int fd, .int cr, .int lo, .int so])), (sp, .inl (cI, 33, .inl f)), (me, .inr (0, [.ref pg])), (pg, .inl (cP, 64, .inr (.inr (.inr (.inr g))))), (k0, .inr (2, [.int th, .ref yb, .ref zb, .int fa, .int fl, .int fd, .int cr, .int lo, .int so, .int fo])), (yb, .inl (cJ, 65536, .inl y)), (zb, .inl (cJ, 33, .inl f))] ++ va_pl LP (prow cI r)) H → va_D (fun q : Nat => s.heap.size ≤ q) ([(h0, .inr (1, [.ref me, .ref sp, .int fa, .int fl, .int fd, .int cr, .int lo, .int so])), (sp, .inl (cI, 33, .inl f)), (me, .inr (0, [.ref pg])), (pg, .inl (cP, 64, .inr (.inr (.inr (.inr g))))), (k0, .inr (2, [.int th, .ref yb, .ref zb, .int fa, .int fl, .int fd, .int cr, .int lo, .int so, .int fo])), (yb, .inl (cJ, 65536, .inl y)), (zb, .inl (cJ, 33, .inl f))] ++ va_pl LP (prow cI r)) → va_S (fun q : Nat => s.heap.size ≤ q) s.heap H locs → lv_has ls 4 [(3, .int (nI i)), (2, .ref k0), (1, .ref h0), (0, .ref b)] → W p l e room_1 s m #[Value.ref b] below meth c H locs (kc + 1) (ks + 256) (lw_Z below #[Value.ref b] s) (F0 m 525 ls []) := by
        intro H locs ls f fa fl fd cr lo so g LP r y th fo hm hq hbr hP hD hS hl
        refine lv_iinc (v := nI i + 5) (lv' := [(3, .int (nI i + 5)), (2, .ref k0), (1, .ref h0), (0, .ref b)]) hx hb dL_law_525 hl (k := 0) rfl rfl (by decide) rfl (fun ls hl => ?_)
        refine lv_goto (tgt := 18) hx hb dL_law_528 (by decide) ?_
        exact ih (i + 5) (kc + 1) (ks + 256) (by omega) (by omega) (by omega) (by omega) f fa fl fd cr lo so g LP r y th fo H locs ls hm hq hbr hP hD hS (by rw [← nI_add i 5]; exact hl)
      refine lv_aload_n hx hb dL_law_26 rfl (lv_at hl 3 rfl) ?_
      refine lv_iload_n hx hb dL_law_27 rfl (lv_at hl 0 rfl) ?_
      refine va_sld hx hb hX hbl hbA hS (pk_in i L (by omega) rfl (by omega)) dL_law_28 ?_
      refine lv_bipush (v := 15) hx hb dL_law_29 (by decide) ?_
      refine lv_iand hx hb dL_law_31 ?_
      by_cases hs_1 : (xs (nI i).toNatClampNeg) &&& 15 = 0
      · refine lv_tableIn (tgt := 92) hx hb dL_law_32 (by rw [hs_1]; decide) (by rw [hs_1]; decide) (off := 60) (by rw [hs_1]; decide) (by decide) ?_
        exact op_0 hL C0 h0 me sp pg k0 yb zb cI cP cJ hK hZ i hi kc ks (by omega) (by omega) f fa fl fd cr lo so g LP r y th fo H locs ls hm hq hbr hP hD hS hl hnx
      · skip
        by_cases hs_2 : (xs (nI i).toNatClampNeg) &&& 15 = 1
        · refine lv_tableIn (tgt := 125) hx hb dL_law_32 (by rw [hs_2]; decide) (by rw [hs_2]; decide) (off := 93) (by rw [hs_2]; decide) (by decide) ?_
          exact op_1 hL C0 h0 me sp pg k0 yb zb cI cP cJ hK hZ i hi kc ks (by omega) (by omega) f fa fl fd cr lo so g LP r y th fo H locs ls hm hq hbr hP hD hS hl hnx
        · skip
          by_cases hs_3 : (xs (nI i).toNatClampNeg) &&& 15 = 2
          · refine lv_tableIn (tgt := 158) hx hb dL_law_32 (by rw [hs_3]; decide) (by rw [hs_3]; decide) (off := 126) (by rw [hs_3]; decide) (by decide) ?_
            exact op_2 hL C0 h0 me sp pg k0 yb zb cI cP cJ hK hZ i hi kc ks (by omega) (by omega) f fa fl fd cr lo so g LP r y th fo H locs ls hm hq hbr hP hD hS hl hnx
          · skip
            by_cases hs_4 : (xs (nI i).toNatClampNeg) &&& 15 = 3
            · refine lv_tableIn (tgt := 181) hx hb dL_law_32 (by rw [hs_4]; decide) (by rw [hs_4]; decide) (off := 149) (by rw [hs_4]; decide) (by decide) ?_
              exact op_3 hL C0 h0 me sp pg k0 yb zb cI cP cJ hK hZ i hi kc ks (by omega) (by omega) f fa fl fd cr lo so g LP r y th fo H locs ls hm hq hbr hP hD hS hl hnx
            · skip
              by_cases hs_5 : (xs (nI i).toNatClampNeg) &&& 15 = 4
              · refine lv_tableIn (tgt := 230) hx hb dL_law_32 (by rw [hs_5]; decide) (by rw [hs_5]; decide) (off := 198) (by rw [hs_5]; decide) (by decide) ?_
                exact op_4 hL C0 h0 me sp pg k0 yb zb cI cP cJ hK hZ i hi kc ks (by omega) (by omega) f fa fl fd cr lo so g LP r y th fo H locs ls hm hq hbr hP hD hS hl hnx
              · skip
                by_cases hs_6 : (xs (nI i).toNatClampNeg) &&& 15 = 5
                · refine lv_tableIn (tgt := 289) hx hb dL_law_32 (by rw [hs_6]; decide) (by rw [hs_6]; decide) (off := 257) (by rw [hs_6]; decide) (by decide) ?_
                  exact op_5 hL C0 h0 me sp pg k0 yb zb cI cP cJ hK hZ i hi kc ks (by omega) (by omega) f fa fl fd cr lo so g LP r y th fo H locs ls hm hq hbr hP hD hS hl hnx
                · skip
                  by_cases hs_7 : (xs (nI i).toNatClampNeg) &&& 15 = 6
                  · refine lv_tableIn (tgt := 348) hx hb dL_law_32 (by rw [hs_7]; decide) (by rw [hs_7]; decide) (off := 316) (by rw [hs_7]; decide) (by decide) ?_
                    exact op_6 hL C0 h0 me sp pg k0 yb zb cI cP cJ hK hZ i hi kc ks (by omega) (by omega) f fa fl fd cr lo so g LP r y th fo H locs ls hm hq hbr hP hD hS hl hnx
                  · skip
                    by_cases hs_8 : (xs (nI i).toNatClampNeg) &&& 15 = 7
                    · refine lv_tableIn (tgt := 417) hx hb dL_law_32 (by rw [hs_8]; decide) (by rw [hs_8]; decide) (off := 385) (by rw [hs_8]; decide) (by decide) ?_
                      exact op_7 hL C0 h0 me sp pg k0 yb zb cI cP cJ hK hZ i hi kc ks (by omega) (by omega) f fa fl fd cr lo so g LP r y th fo H locs ls hm hq hbr hP hD hS hl hnx
                    · skip
                      by_cases hs_9 : (xs (nI i).toNatClampNeg) &&& 15 = 8
                      · refine lv_tableIn (tgt := 456) hx hb dL_law_32 (by rw [hs_9]; decide) (by rw [hs_9]; decide) (off := 424) (by rw [hs_9]; decide) (by decide) ?_
                        exact op_8 hL C0 h0 me sp pg k0 yb zb cI cP cJ hK hZ i hi kc ks (by omega) (by omega) f fa fl fd cr lo so g LP r y th fo H locs ls hm hq hbr hP hD hS hl hnx
                      · skip
                        by_cases hs_10 : (xs (nI i).toNatClampNeg) &&& 15 = 9
                        · refine lv_tableIn (tgt := 479) hx hb dL_law_32 (by rw [hs_10]; decide) (by rw [hs_10]; decide) (off := 447) (by rw [hs_10]; decide) (by decide) ?_
                          exact op_9 hL C0 h0 me sp pg k0 yb zb cI cP cJ hK hZ i hi kc ks (by omega) (by omega) f fa fl fd cr lo so g LP r y th fo H locs ls hm hq hbr hP hD hS hl hnx
                        · skip
                          by_cases hs_11 : (xs (nI i).toNatClampNeg) &&& 15 = 10
                          · refine lv_tableIn (tgt := 502) hx hb dL_law_32 (by rw [hs_11]; decide) (by rw [hs_11]; decide) (off := 470) (by rw [hs_11]; decide) (by decide) ?_
                            exact op_10 hL C0 h0 me sp pg k0 yb zb cI cP cJ hK hZ i hi kc ks (by omega) (by omega) f fa fl fd cr lo so g LP r y th fo H locs ls hm hq hbr hP hD hS hl hnx
                          · skip
                            refine lv_tableOut (tgt := 525) hx hb dL_law_32 (by have := lv_neT hs_1 (a := 0) (by decide); have := lv_neT hs_2 (a := 1) (by decide); have := lv_neT hs_3 (a := 2) (by decide); have := lv_neT hs_4 (a := 3) (by decide); have := lv_neT hs_5 (a := 4) (by decide); have := lv_neT hs_6 (a := 5) (by decide); have := lv_neT hs_7 (a := 6) (by decide); have := lv_neT hs_8 (a := 7) (by decide); have := lv_neT hs_9 (a := 8) (by decide); have := lv_neT hs_10 (a := 9) (by decide); have := lv_neT hs_11 (a := 10) (by decide); omega) (by decide) ?_
                            refine W.widen (k := kc + 1) (n := ks + 256) (by omega) (by omega) ?_
                            exact hnx H locs ls f fa fl fd cr lo so g LP r y th fo hm hq hbr hP hD hS hl
