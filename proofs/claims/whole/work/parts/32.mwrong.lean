set_option maxRecDepth 100000 in
theorem miM_mode_X2 : ∀ w ∈ u_ws RX2 TX2 10, w ∈ wsM_mode := by decide +kernel
set_option maxRecDepth 100000 in
theorem mbM_mode_1 : (.fieldLink RX2 14 "SoftMapsModel" "specials" "[I" : Cond) ∈ wsM_mode := by decide +kernel
def s_M_mode (z : Nat → Int32) (bit : Int32) : Int32 :=
  if ((z (32 : Int32).toNatClampNeg) / bit) - ((z (32 : Int32).toNatClampNeg) / bit) / 2 * 2 = 1 then
    1
  else
    0
set_option maxHeartbeats 4000000 in
set_option maxRecDepth 100000 in
theorem c_M_mode (l : Launch) (dC : Nat → ClassId) (dI : Nat → Nat → Nat) (k0 yb zb : Nat) (cI : ClassId) (y z : Nat → Int32) (th a1 a2 a3 a4 a5 a6 fo : Int32) (bit : Int32) (hb0 : ¬ bit = 0) : Met l yM_mode wsM_mode ({ frames := 0, cells := 0, slots := 0, locals := 0 }) (va_Pc [.ref k0, .int bit] (fun U => va_P (dC, dI) vwCl [(k0, .inr (2, [.int th, .ref yb, .ref zb, .int a1, .int a2, .int a3, .int a4, .int a5, .int a6, .int fo])), (yb, .inl (cI, 65536, .inl y)), (zb, .inl (cI, 33, .inl z))] U.heap ∧ va_K (dC, dI) vwCl [(cI, .int)] U)) (vp_Si (fun x_ => x_ = s_M_mode z bit)) 0 0 (fun _ => False) := by
  refine Met.ofW (cc := cM_mode) (maxL := 2) (ret := (some .boolean)) (by decide) rfl ?_
  intro p e s m args below meth c s₁ B hml hv
  obtain ⟨rfl, hP, hK⟩ := hv
  have hx := B.exec
  have hb := B.bytes
  have hr := B.returns
  have hts := atoms_spec (ws := wsM_mode) B.pre
  have hown : s.vm.findClass RX2 = some m.cls := findClass_of_methodNamed B.named
  have hlocks := B.notSynchronized
  have hl := lv_entry ([.ref k0, .int bit]) (n := 2) (Nat.le_of_ble_eq_true rfl)
  rw [lg_entry_eq]
  generalize (lg_sl ([.ref k0, .int bit]) ++ List.replicate (2 - (lg_sl ([.ref k0, .int bit])).length) Slot.unset).toArray = ls at hl ⊢
  have hl : lv_has ls 2 [(0, .ref k0), (1, .int bit)] := hl
  have hP : va_P (dC, dI) vwCl [(k0, .inr (2, [.int th, .ref yb, .ref zb, .int a1, .int a2, .int a3, .int a4, .int a5, .int a6, .int fo])), (yb, .inl (cI, 65536, .inl y)), (zb, .inl (cI, 33, .inl z))] s.heap := hP
  refine lv_aload_n hx hb dM_mode_0 rfl (lv_at hl 0 rfl) ?_
  refine va_get (D := (dC, dI)) (ci := 2) (v := .ref zb) (C := RX2) (T := TX2) (N := 10) hx hb hts miM_mode_X2 hown hK hP 0 rfl rfl 2 (by decide) (hts _ mbM_mode_1) (fun _ h9 => h9) rfl dM_mode_1 ?_
  refine lv_bipush (v := 32) hx hb dM_mode_4 (by decide) ?_
  refine va_iald hx hb hK hP 2 0 rfl rfl (pk_in 32 33 (by decide)) dM_mode_6 ?_
  refine lv_iload_n hx hb dM_mode_7 rfl (lv_at hl 1 rfl) ?_
  refine lv_idiv hx hb dM_mode_8 hb0 ?_
  refine lv_iconst (v := 2) hx hb dM_mode_9 (by decide) ?_
  refine lv_irem hx hb dM_mode_10 (by decide) ?_
  refine lv_iconst (v := 1) hx hb dM_mode_11 (by decide) ?_
  refine lv_icmp_ne (tgt := 19) hx hb dM_mode_12 (by decide) (fun c_1 => ?_) (fun c_1 => ?_)
  · skip
    refine lv_iconst (v := 0) hx hb dM_mode_19 (by decide) ?_
    exact W.zret (v := 0) hx hb hr rfl (fun t ht hW => ⟨0, rfl, by simp only [s_M_mode, if_neg c_1], ht⟩) (fun q h => by cases h) dM_mode_20
  · skip
    refine lv_iconst (v := 1) hx hb dM_mode_15 (by decide) ?_
    refine lv_goto (tgt := 20) hx hb dM_mode_16 (by decide) ?_
    exact W.zret (v := 1) hx hb hr rfl (fun t ht hW => ⟨1, rfl, by simp only [s_M_mode, if_pos c_1], ht⟩) (fun q h => by cases h) dM_mode_20
theorem z_M_mode (z : Nat → Int32) (bit : Int32) : s_M_mode z bit = 0 ∨ s_M_mode z bit = 1 := by
  unfold s_M_mode
  (repeat' split) <;> first | exact Or.inl rfl | exact Or.inr rfl | skip
set_option maxRecDepth 100000 in
theorem mbM_wrong_0 : (.constantLong RX2 44 (65536) : Cond) ∈ wsM_wrong := by decide +kernel
set_option maxRecDepth 100000 in
theorem miM_wrong_X2 : ∀ w ∈ u_ws RX2 TX2 10, w ∈ wsM_wrong := by decide +kernel
set_option maxRecDepth 100000 in
theorem mbM_wrong_2 : (.fieldLink RX2 46 "SoftMapsModel" "found" "I" : Cond) ∈ wsM_wrong := by decide +kernel
set_option maxRecDepth 100000 in
theorem mbM_wrong_3 : (.constantLong RX2 42 (32768) : Cond) ∈ wsM_wrong := by decide +kernel
def s_b232 (how : Int32) (at_ : Int64) : Int32 × Int32 :=
  if how = 0 then
    if lg_cmp at_ 32768 < 0 then
      (0, at_.toInt32)
    else
      (2, 0)
  else
    if 0 ≤ lg_cmp at_ 65536 then
      (2, 0)
    else
      if how = 2 then
        if 0 ≤ lg_cmp at_ 32768 then
          (0, at_.toInt32)
        else
          (2, 0)
      else
        (0, at_.toInt32)
set_option maxHeartbeats 4000000 in
set_option maxRecDepth 100000 in
theorem b_M_wrong {p : Program} {l : Launch} {e : Env} {R : Room} {s : State} {m : MethodId} {args : Array Value} {below : List Frame} {meth : Method} {c : Code} {Q : State → Prop} (hx : p.tables.exec = Jvm.exec) (hb : c.code = cM_wrong) (hown : s.vm.findClass RX2 = some m.cls) (hts : ∀ w ∈ wsM_wrong, w.before args s = true) (dC : Nat → ClassId) (dI : Nat → Nat → Nat) (k0 yb zb : Nat) (cI : ClassId) (y z : Nat → Int32) (th a1 a2 a3 a4 a5 a6 fo : Int32) (how : Int32) (at_ : Int64) {A : Nat → Prop} (hK : va_K (dC, dI) vwCl [(cI, .int)] s) : ∀ (H : Heap) (locs : List Loc) (ls : Array Slot), va_P (dC, dI) vwCl [(k0, .inr (2, [.int th, .ref yb, .ref zb, .int a1, .int a2, .int a3, .int a4, .int a5, .int a6, .int fo])), (yb, .inl (cI, 65536, .inl y)), (zb, .inl (cI, 33, .inl z))] H → va_D A [(k0, .inr (2, [.int th, .ref yb, .ref zb, .int a1, .int a2, .int a3, .int a4, .int a5, .int a6, .int fo])), (yb, .inl (cI, 65536, .inl y)), (zb, .inl (cI, 33, .inl z))] → va_S A s.heap H locs → lv_has ls 16 [(5, .long at_), (2, .int how), (0, .ref k0)] → (∀ (H : Heap) (locs : List Loc) (ls : Array Slot), ls.size = 16 → va_P (dC, dI) vwCl [(k0, .inr (2, [.int th, .ref yb, .ref zb, .int a1, .int a2, .int a3, .int a4, .int a5, .int a6, .int ((s_b232 how at_).2)])), (yb, .inl (cI, 65536, .inl y)), (zb, .inl (cI, 33, .inl z))] H → va_D A [(k0, .inr (2, [.int th, .ref yb, .ref zb, .int a1, .int a2, .int a3, .int a4, .int a5, .int a6, .int ((s_b232 how at_).2)])), (yb, .inl (cI, 65536, .inl y)), (zb, .inl (cI, 33, .inl z))] → va_S A s.heap H locs → W p l e R s m args below meth c H locs 0 0 Q (F0 m 309 ls [.int (s_b232 how at_).1])) → W p l e R s m args below meth c H locs 0 0 Q (F0 m 232 ls []) := by
  intro H locs ls hP hD hS hl kk
  refine lv_iload_n hx hb dM_wrong_232 rfl (lv_at hl 1 rfl) ?_
  refine lv_if_ne (tgt := 253) hx hb dM_wrong_233 (by decide) (fun c_1 => ?_) (fun c_1 => ?_)
  · skip
    refine lv_lload hx hb dM_wrong_253 (lv_at hl 0 rfl) ?_
    refine lv_ldc2 (v := 65536) hx hb hown (hts _ mbM_wrong_0) dM_wrong_255 ?_
    refine W.lcmp hx hb dM_wrong_258 ?_
    refine lv_if_ge (tgt := 276) hx hb dM_wrong_259 (by decide) (fun c_2 => ?_) (fun c_2 => ?_)
    · skip
      refine lv_iconst (v := 1) hx hb dM_wrong_276 (by decide) ?_
      refine lv_goto (tgt := 281) hx hb dM_wrong_277 (by decide) ?_
      refine lv_istore (lv' := [(7, .int 1), (5, .long at_), (2, .int how), (0, .ref k0)]) hx hb dM_wrong_281 hl (by decide) rfl (fun ls hl => ?_)
      refine lv_aload_n hx hb dM_wrong_283 rfl (lv_at hl 3 rfl) ?_
      refine lv_iload hx hb dM_wrong_284 (lv_at hl 0 rfl) ?_
      refine lv_if_eq (tgt := 293) hx hb dM_wrong_286 (by decide) (fun c_3 => ?_) (fun c_3 => ?_)
      · exact absurd c_3 (by decide)
      · skip
        refine lv_iconst (v := 0) hx hb dM_wrong_289 (by decide) ?_
        refine lv_goto (tgt := 296) hx hb dM_wrong_290 (by decide) ?_
        refine va_put (D := (dC, dI)) (ci := 2) (v := .int 0) (ty := tyX2 9) (C := RX2) (T := TX2) (N := 10) hx hb hts miM_wrong_X2 tyX2 tyX2_ok nmX2 hown hK hP hD hS 0 rfl rfl 9 (by decide) (hts _ mbM_wrong_2) (fun _ h9 => h9) rfl (by decide +kernel) rfl rfl (Nat.le_of_ble_eq_true rfl) dM_wrong_296 (fun H locs hP hD hS => ?_)
        have hP : va_P (dC, dI) vwCl [(k0, .inr (2, [.int th, .ref yb, .ref zb, .int a1, .int a2, .int a3, .int a4, .int a5, .int a6, .int 0])), (yb, .inl (cI, 65536, .inl y)), (zb, .inl (cI, 33, .inl z))] H := hP
        have hD : va_D A [(k0, .inr (2, [.int th, .ref yb, .ref zb, .int a1, .int a2, .int a3, .int a4, .int a5, .int a6, .int 0])), (yb, .inl (cI, 65536, .inl y)), (zb, .inl (cI, 33, .inl z))] := hD
        refine lv_iload hx hb dM_wrong_299 (lv_at hl 0 rfl) ?_
        refine lv_if_eq (tgt := 308) hx hb dM_wrong_301 (by decide) (fun c_4 => ?_) (fun c_4 => ?_)
        · exact absurd c_4 (by decide)
        · skip
          refine lv_iconst (v := 2) hx hb dM_wrong_304 (by decide) ?_
          refine lv_goto (tgt := 309) hx hb dM_wrong_305 (by decide) ?_
          have e9 : s_b232 how at_ = (2, 0) := by simp only [s_b232, if_neg c_1, if_pos c_2]
          have k9 := kk H locs ls hl.1
          rw [e9] at k9
          exact k9 hP hD hS
    · skip
      refine lv_iload_n hx hb dM_wrong_262 rfl (lv_at hl 1 rfl) ?_
      refine lv_iconst (v := 2) hx hb dM_wrong_263 (by decide) ?_
      refine lv_icmp_ne (tgt := 280) hx hb dM_wrong_264 (by decide) (fun c_5 => ?_) (fun c_5 => ?_)
      · skip
        refine lv_iconst (v := 0) hx hb dM_wrong_280 (by decide) ?_
        refine lv_istore (lv' := [(7, .int 0), (5, .long at_), (2, .int how), (0, .ref k0)]) hx hb dM_wrong_281 hl (by decide) rfl (fun ls hl => ?_)
        refine lv_aload_n hx hb dM_wrong_283 rfl (lv_at hl 3 rfl) ?_
        refine lv_iload hx hb dM_wrong_284 (lv_at hl 0 rfl) ?_
        refine lv_if_eq (tgt := 293) hx hb dM_wrong_286 (by decide) (fun c_6 => ?_) (fun c_6 => ?_)
        · skip
          refine lv_lload hx hb dM_wrong_293 (lv_at hl 1 rfl) ?_
          refine lv_l2i (v := at_.toInt32) hx hb dM_wrong_295 rfl ?_
          refine va_put (D := (dC, dI)) (ci := 2) (v := .int at_.toInt32) (ty := tyX2 9) (C := RX2) (T := TX2) (N := 10) hx hb hts miM_wrong_X2 tyX2 tyX2_ok nmX2 hown hK hP hD hS 0 rfl rfl 9 (by decide) (hts _ mbM_wrong_2) (fun _ h9 => h9) rfl (by decide +kernel) rfl rfl (Nat.le_of_ble_eq_true rfl) dM_wrong_296 (fun H locs hP hD hS => ?_)
          have hP : va_P (dC, dI) vwCl [(k0, .inr (2, [.int th, .ref yb, .ref zb, .int a1, .int a2, .int a3, .int a4, .int a5, .int a6, .int at_.toInt32])), (yb, .inl (cI, 65536, .inl y)), (zb, .inl (cI, 33, .inl z))] H := hP
          have hD : va_D A [(k0, .inr (2, [.int th, .ref yb, .ref zb, .int a1, .int a2, .int a3, .int a4, .int a5, .int a6, .int at_.toInt32])), (yb, .inl (cI, 65536, .inl y)), (zb, .inl (cI, 33, .inl z))] := hD
          refine lv_iload hx hb dM_wrong_299 (lv_at hl 0 rfl) ?_
          refine lv_if_eq (tgt := 308) hx hb dM_wrong_301 (by decide) (fun c_7 => ?_) (fun c_7 => ?_)
          · skip
            refine lv_iconst (v := 0) hx hb dM_wrong_308 (by decide) ?_
            have e9 : s_b232 how at_ = (0, at_.toInt32) := by simp only [s_b232, if_neg c_1, if_neg c_2, if_neg c_5]
            have k9 := kk H locs ls hl.1
            rw [e9] at k9
            exact k9 hP hD hS
          · exact absurd c_7 (by decide)
        · exact absurd c_6 (by decide)
      · skip
        refine lv_lload hx hb dM_wrong_267 (lv_at hl 0 rfl) ?_
        refine lv_ldc2 (v := 32768) hx hb hown (hts _ mbM_wrong_3) dM_wrong_269 ?_
        refine W.lcmp hx hb dM_wrong_272 ?_
        refine lv_if_ge (tgt := 280) hx hb dM_wrong_273 (by decide) (fun c_8 => ?_) (fun c_8 => ?_)
        · skip
          refine lv_iconst (v := 0) hx hb dM_wrong_280 (by decide) ?_
          refine lv_istore (lv' := [(7, .int 0), (5, .long at_), (2, .int how), (0, .ref k0)]) hx hb dM_wrong_281 hl (by decide) rfl (fun ls hl => ?_)
          refine lv_aload_n hx hb dM_wrong_283 rfl (lv_at hl 3 rfl) ?_
          refine lv_iload hx hb dM_wrong_284 (lv_at hl 0 rfl) ?_
          refine lv_if_eq (tgt := 293) hx hb dM_wrong_286 (by decide) (fun c_9 => ?_) (fun c_9 => ?_)
          · skip
            refine lv_lload hx hb dM_wrong_293 (lv_at hl 1 rfl) ?_
            refine lv_l2i (v := at_.toInt32) hx hb dM_wrong_295 rfl ?_
            refine va_put (D := (dC, dI)) (ci := 2) (v := .int at_.toInt32) (ty := tyX2 9) (C := RX2) (T := TX2) (N := 10) hx hb hts miM_wrong_X2 tyX2 tyX2_ok nmX2 hown hK hP hD hS 0 rfl rfl 9 (by decide) (hts _ mbM_wrong_2) (fun _ h9 => h9) rfl (by decide +kernel) rfl rfl (Nat.le_of_ble_eq_true rfl) dM_wrong_296 (fun H locs hP hD hS => ?_)
            have hP : va_P (dC, dI) vwCl [(k0, .inr (2, [.int th, .ref yb, .ref zb, .int a1, .int a2, .int a3, .int a4, .int a5, .int a6, .int at_.toInt32])), (yb, .inl (cI, 65536, .inl y)), (zb, .inl (cI, 33, .inl z))] H := hP
            have hD : va_D A [(k0, .inr (2, [.int th, .ref yb, .ref zb, .int a1, .int a2, .int a3, .int a4, .int a5, .int a6, .int at_.toInt32])), (yb, .inl (cI, 65536, .inl y)), (zb, .inl (cI, 33, .inl z))] := hD
            refine lv_iload hx hb dM_wrong_299 (lv_at hl 0 rfl) ?_
            refine lv_if_eq (tgt := 308) hx hb dM_wrong_301 (by decide) (fun c_10 => ?_) (fun c_10 => ?_)
            · skip
              refine lv_iconst (v := 0) hx hb dM_wrong_308 (by decide) ?_
              have e9 : s_b232 how at_ = (0, at_.toInt32) := by simp only [s_b232, if_neg c_1, if_neg c_2, if_pos c_5, if_pos c_8]
              have k9 := kk H locs ls hl.1
              rw [e9] at k9
              exact k9 hP hD hS
            · exact absurd c_10 (by decide)
          · exact absurd c_9 (by decide)
        · skip
          refine lv_iconst (v := 1) hx hb dM_wrong_276 (by decide) ?_
          refine lv_goto (tgt := 281) hx hb dM_wrong_277 (by decide) ?_
          refine lv_istore (lv' := [(7, .int 1), (5, .long at_), (2, .int how), (0, .ref k0)]) hx hb dM_wrong_281 hl (by decide) rfl (fun ls hl => ?_)
          refine lv_aload_n hx hb dM_wrong_283 rfl (lv_at hl 3 rfl) ?_
          refine lv_iload hx hb dM_wrong_284 (lv_at hl 0 rfl) ?_
          refine lv_if_eq (tgt := 293) hx hb dM_wrong_286 (by decide) (fun c_11 => ?_) (fun c_11 => ?_)
          · exact absurd c_11 (by decide)
          · skip
            refine lv_iconst (v := 0) hx hb dM_wrong_289 (by decide) ?_
            refine lv_goto (tgt := 296) hx hb dM_wrong_290 (by decide) ?_
            refine va_put (D := (dC, dI)) (ci := 2) (v := .int 0) (ty := tyX2 9) (C := RX2) (T := TX2) (N := 10) hx hb hts miM_wrong_X2 tyX2 tyX2_ok nmX2 hown hK hP hD hS 0 rfl rfl 9 (by decide) (hts _ mbM_wrong_2) (fun _ h9 => h9) rfl (by decide +kernel) rfl rfl (Nat.le_of_ble_eq_true rfl) dM_wrong_296 (fun H locs hP hD hS => ?_)
            have hP : va_P (dC, dI) vwCl [(k0, .inr (2, [.int th, .ref yb, .ref zb, .int a1, .int a2, .int a3, .int a4, .int a5, .int a6, .int 0])), (yb, .inl (cI, 65536, .inl y)), (zb, .inl (cI, 33, .inl z))] H := hP
            have hD : va_D A [(k0, .inr (2, [.int th, .ref yb, .ref zb, .int a1, .int a2, .int a3, .int a4, .int a5, .int a6, .int 0])), (yb, .inl (cI, 65536, .inl y)), (zb, .inl (cI, 33, .inl z))] := hD
            refine lv_iload hx hb dM_wrong_299 (lv_at hl 0 rfl) ?_
            refine lv_if_eq (tgt := 308) hx hb dM_wrong_301 (by decide) (fun c_12 => ?_) (fun c_12 => ?_)
            · exact absurd c_12 (by decide)
            · skip
              refine lv_iconst (v := 2) hx hb dM_wrong_304 (by decide) ?_
              refine lv_goto (tgt := 309) hx hb dM_wrong_305 (by decide) ?_
              have e9 : s_b232 how at_ = (2, 0) := by simp only [s_b232, if_neg c_1, if_neg c_2, if_pos c_5, if_neg c_8]
              have k9 := kk H locs ls hl.1
              rw [e9] at k9
              exact k9 hP hD hS
  · skip
    refine lv_lload hx hb dM_wrong_236 (lv_at hl 0 rfl) ?_
    refine lv_ldc2 (v := 32768) hx hb hown (hts _ mbM_wrong_3) dM_wrong_238 ?_
    refine W.lcmp hx hb dM_wrong_241 ?_
    refine lv_if_lt (tgt := 249) hx hb dM_wrong_242 (by decide) (fun c_13 => ?_) (fun c_13 => ?_)
    · skip
      refine lv_iconst (v := 0) hx hb dM_wrong_249 (by decide) ?_
      refine lv_goto (tgt := 281) hx hb dM_wrong_250 (by decide) ?_
      refine lv_istore (lv' := [(7, .int 0), (5, .long at_), (2, .int how), (0, .ref k0)]) hx hb dM_wrong_281 hl (by decide) rfl (fun ls hl => ?_)
      refine lv_aload_n hx hb dM_wrong_283 rfl (lv_at hl 3 rfl) ?_
      refine lv_iload hx hb dM_wrong_284 (lv_at hl 0 rfl) ?_
      refine lv_if_eq (tgt := 293) hx hb dM_wrong_286 (by decide) (fun c_14 => ?_) (fun c_14 => ?_)
      · skip
        refine lv_lload hx hb dM_wrong_293 (lv_at hl 1 rfl) ?_
        refine lv_l2i (v := at_.toInt32) hx hb dM_wrong_295 rfl ?_
        refine va_put (D := (dC, dI)) (ci := 2) (v := .int at_.toInt32) (ty := tyX2 9) (C := RX2) (T := TX2) (N := 10) hx hb hts miM_wrong_X2 tyX2 tyX2_ok nmX2 hown hK hP hD hS 0 rfl rfl 9 (by decide) (hts _ mbM_wrong_2) (fun _ h9 => h9) rfl (by decide +kernel) rfl rfl (Nat.le_of_ble_eq_true rfl) dM_wrong_296 (fun H locs hP hD hS => ?_)
        have hP : va_P (dC, dI) vwCl [(k0, .inr (2, [.int th, .ref yb, .ref zb, .int a1, .int a2, .int a3, .int a4, .int a5, .int a6, .int at_.toInt32])), (yb, .inl (cI, 65536, .inl y)), (zb, .inl (cI, 33, .inl z))] H := hP
        have hD : va_D A [(k0, .inr (2, [.int th, .ref yb, .ref zb, .int a1, .int a2, .int a3, .int a4, .int a5, .int a6, .int at_.toInt32])), (yb, .inl (cI, 65536, .inl y)), (zb, .inl (cI, 33, .inl z))] := hD
        refine lv_iload hx hb dM_wrong_299 (lv_at hl 0 rfl) ?_
        refine lv_if_eq (tgt := 308) hx hb dM_wrong_301 (by decide) (fun c_15 => ?_) (fun c_15 => ?_)
        · skip
          refine lv_iconst (v := 0) hx hb dM_wrong_308 (by decide) ?_
          have e9 : s_b232 how at_ = (0, at_.toInt32) := by simp only [s_b232, if_pos c_1, if_pos c_13]
          have k9 := kk H locs ls hl.1
          rw [e9] at k9
          exact k9 hP hD hS
        · exact absurd c_15 (by decide)
      · exact absurd c_14 (by decide)
    · skip
      refine lv_iconst (v := 1) hx hb dM_wrong_245 (by decide) ?_
      refine lv_goto (tgt := 281) hx hb dM_wrong_246 (by decide) ?_
      refine lv_istore (lv' := [(7, .int 1), (5, .long at_), (2, .int how), (0, .ref k0)]) hx hb dM_wrong_281 hl (by decide) rfl (fun ls hl => ?_)
      refine lv_aload_n hx hb dM_wrong_283 rfl (lv_at hl 3 rfl) ?_
      refine lv_iload hx hb dM_wrong_284 (lv_at hl 0 rfl) ?_
      refine lv_if_eq (tgt := 293) hx hb dM_wrong_286 (by decide) (fun c_16 => ?_) (fun c_16 => ?_)
      · exact absurd c_16 (by decide)
      · skip
        refine lv_iconst (v := 0) hx hb dM_wrong_289 (by decide) ?_
        refine lv_goto (tgt := 296) hx hb dM_wrong_290 (by decide) ?_
        refine va_put (D := (dC, dI)) (ci := 2) (v := .int 0) (ty := tyX2 9) (C := RX2) (T := TX2) (N := 10) hx hb hts miM_wrong_X2 tyX2 tyX2_ok nmX2 hown hK hP hD hS 0 rfl rfl 9 (by decide) (hts _ mbM_wrong_2) (fun _ h9 => h9) rfl (by decide +kernel) rfl rfl (Nat.le_of_ble_eq_true rfl) dM_wrong_296 (fun H locs hP hD hS => ?_)
        have hP : va_P (dC, dI) vwCl [(k0, .inr (2, [.int th, .ref yb, .ref zb, .int a1, .int a2, .int a3, .int a4, .int a5, .int a6, .int 0])), (yb, .inl (cI, 65536, .inl y)), (zb, .inl (cI, 33, .inl z))] H := hP
        have hD : va_D A [(k0, .inr (2, [.int th, .ref yb, .ref zb, .int a1, .int a2, .int a3, .int a4, .int a5, .int a6, .int 0])), (yb, .inl (cI, 65536, .inl y)), (zb, .inl (cI, 33, .inl z))] := hD
        refine lv_iload hx hb dM_wrong_299 (lv_at hl 0 rfl) ?_
        refine lv_if_eq (tgt := 308) hx hb dM_wrong_301 (by decide) (fun c_17 => ?_) (fun c_17 => ?_)
        · exact absurd c_17 (by decide)
        · skip
          refine lv_iconst (v := 2) hx hb dM_wrong_304 (by decide) ?_
          refine lv_goto (tgt := 309) hx hb dM_wrong_305 (by decide) ?_
          have e9 : s_b232 how at_ = (2, 0) := by simp only [s_b232, if_pos c_1, if_neg c_13]
          have k9 := kk H locs ls hl.1
          rw [e9] at k9
          exact k9 hP hD hS
theorem at_n (v : Int32) : ∃ n : Nat, n < 2 ^ 32 ∧ v = nI n ∧ v.toInt64 &&& 4294967295 = lN n := by
  refine ⟨v.toBitVec.toNat, v.toBitVec.isLt, ?_, ?_⟩
  · apply Int32.toBitVec_inj.mp
    apply BitVec.eq_of_toNat_eq
    rw [pk_tn v.toBitVec.isLt]
  · apply Int64.toBitVec_inj.mp
    apply BitVec.eq_of_toNat_eq
    have hv := v.toBitVec.isLt
    have e1 : (lN v.toBitVec.toNat).toBitVec.toNat = v.toBitVec.toNat := by
      show (BitVec.ofNat 64 v.toBitVec.toNat).toNat = _
      rw [BitVec.toNat_ofNat]
      omega
    rw [e1]
    show (v.toInt64.toBitVec &&& (4294967295 : Int64).toBitVec).toNat = _
    rw [BitVec.toNat_and]
    have e2 : (4294967295 : Int64).toBitVec.toNat = 2 ^ 32 - 1 := by decide
    rw [e2, Nat.and_two_pow_sub_one_eq_mod]
    have e3 : v.toInt64.toBitVec = v.toBitVec.signExtend 64 := rfl
    rw [e3, BitVec.toNat_signExtend]
    simp only [BitVec.toNat_setWidth]
    split <;> omega
theorem wset_n (v : Int32) : ∃ j : Nat, j < 8 ∧ ((v.toInt64 &&& 4294967295) / 1024 - (v.toInt64 &&& 4294967295) / 1024 / 8 * 8).toInt32 = nI j := by
  obtain ⟨n, hn, -, e⟩ := at_n v
  rw [e, show (1024 : Int64) = lN 1024 from rfl, show (8 : Int64) = lN 8 from rfl, pk_lDiv (by omega) (by omega) (by omega), pk_lRem (by omega) (by omega) (by omega), lN_i]
  exact ⟨_, Nat.mod_lt _ (by omega), rfl⟩
theorem in_w (v : Int32) (a : Nat) (ha : a ≤ 25) (A : Int32) (hA : A = nI a) : vp_in (((v.toInt64 &&& 4294967295) / 1024 - (v.toInt64 &&& 4294967295) / 1024 / 8 * 8).toInt32 + A) 33 := by
  obtain ⟨j, hj, e⟩ := wset_n v
  exact pk_in (j + a) 33 (by omega) (by rw [e, hA, nI_add])
theorem in_w8 (v : Int32) (a : Nat) (ha : a ≤ 17) (A : Int32) (hA : A = nI a) : vp_in (((v.toInt64 &&& 4294967295) / 1024 - (v.toInt64 &&& 4294967295) / 1024 / 8 * 8).toInt32 + A + 8) 33 := by
  obtain ⟨j, hj, e⟩ := wset_n v
  exact pk_in (j + a + 8) 33 (by omega) (by rw [e, hA, nI_add, show (8 : Int32) = nI 8 from rfl, nI_add])
set_option maxRecDepth 100000 in
theorem mbM_wrong_4 : (.constantLong RX2 29 (4294967295) : Cond) ∈ wsM_wrong := by decide +kernel
set_option maxRecDepth 100000 in
theorem mbM_wrong_5 : (.constantLong RX2 34 (1024) : Cond) ∈ wsM_wrong := by decide +kernel
set_option maxRecDepth 100000 in
theorem mbM_wrong_6 : (.constantLong RX2 36 (8) : Cond) ∈ wsM_wrong := by decide +kernel
set_option maxRecDepth 100000 in
theorem mbM_wrong_7 : (.fieldLink RX2 14 "SoftMapsModel" "specials" "[I" : Cond) ∈ wsM_wrong := by decide +kernel
set_option maxRecDepth 100000 in
theorem mbM_wrong_8 : (.constantLong RX2 38 (2) : Cond) ∈ wsM_wrong := by decide +kernel
set_option maxRecDepth 100000 in
theorem mbM_wrong_9 : (.constantLong RX2 40 (4) : Cond) ∈ wsM_wrong := by decide +kernel
def s_M_wrong (z : Nat → Int32) (fo : Int32) (v : Int32) (how : Int32) (wd : Int32) : Int32 × Int32 :=
  if wd = 0 then
    if how = 0 then
      if v &&& 3 = 0 then
        if s_M_mode z 2 = 0 then
          ((s_b232 how (v.toInt64 &&& 4294967295)).1, ((s_b232 how (v.toInt64 &&& 4294967295)).2))
        else
          if lg_cmp ((((z (((((v.toInt64 &&& 4294967295) / 1024) - ((v.toInt64 &&& 4294967295) / 1024) / 8 * 8).toInt32) + 0).toNatClampNeg).toInt64) &&& 4294967295) - (((z (((((v.toInt64 &&& 4294967295) / 1024) - ((v.toInt64 &&& 4294967295) / 1024) / 8 * 8).toInt32) + 0).toNatClampNeg).toInt64) &&& 4294967295) / 2 * 2) 0 = 0 then
            (10, fo)
          else
            if lg_cmp ((((z (((((v.toInt64 &&& 4294967295) / 1024) - ((v.toInt64 &&& 4294967295) / 1024) / 8 * 8).toInt32) + 0).toNatClampNeg).toInt64) &&& 4294967295) / 1024) ((v.toInt64 &&& 4294967295) / 1024) = 0 then
              if how = 2 then
                if s_M_mode z 1 = 0 then
                  if lg_cmp (((((z ((((((v.toInt64 &&& 4294967295) / 1024) - ((v.toInt64 &&& 4294967295) / 1024) / 8 * 8).toInt32) + 0) + 8).toNatClampNeg).toInt64) &&& 4294967295) / 2) - ((((z ((((((v.toInt64 &&& 4294967295) / 1024) - ((v.toInt64 &&& 4294967295) / 1024) / 8 * 8).toInt32) + 0) + 8).toNatClampNeg).toInt64) &&& 4294967295) / 2) / 2 * 2) 0 = 0 then
                    (4, fo)
                  else
                    ((s_b232 how ((((((z ((((((v.toInt64 &&& 4294967295) / 1024) - ((v.toInt64 &&& 4294967295) / 1024) / 8 * 8).toInt32) + 0) + 8).toNatClampNeg).toInt64) &&& 4294967295) / 1024) * 1024) + ((v.toInt64 &&& 4294967295) - (v.toInt64 &&& 4294967295) / 1024 * 1024))).1, ((s_b232 how ((((((z ((((((v.toInt64 &&& 4294967295) / 1024) - ((v.toInt64 &&& 4294967295) / 1024) / 8 * 8).toInt32) + 0) + 8).toNatClampNeg).toInt64) &&& 4294967295) / 1024) * 1024) + ((v.toInt64 &&& 4294967295) - (v.toInt64 &&& 4294967295) / 1024 * 1024))).2))
                else
                  if lg_cmp (((((z ((((((v.toInt64 &&& 4294967295) / 1024) - ((v.toInt64 &&& 4294967295) / 1024) / 8 * 8).toInt32) + 0) + 8).toNatClampNeg).toInt64) &&& 4294967295) / 8) - ((((z ((((((v.toInt64 &&& 4294967295) / 1024) - ((v.toInt64 &&& 4294967295) / 1024) / 8 * 8).toInt32) + 0) + 8).toNatClampNeg).toInt64) &&& 4294967295) / 8) / 2 * 2) 0 = 0 then
                    (4, fo)
                  else
                    ((s_b232 how ((((((z ((((((v.toInt64 &&& 4294967295) / 1024) - ((v.toInt64 &&& 4294967295) / 1024) / 8 * 8).toInt32) + 0) + 8).toNatClampNeg).toInt64) &&& 4294967295) / 1024) * 1024) + ((v.toInt64 &&& 4294967295) - (v.toInt64 &&& 4294967295) / 1024 * 1024))).1, ((s_b232 how ((((((z ((((((v.toInt64 &&& 4294967295) / 1024) - ((v.toInt64 &&& 4294967295) / 1024) / 8 * 8).toInt32) + 0) + 8).toNatClampNeg).toInt64) &&& 4294967295) / 1024) * 1024) + ((v.toInt64 &&& 4294967295) - (v.toInt64 &&& 4294967295) / 1024 * 1024))).2))
              else
                if s_M_mode z 1 = 0 then
                  if lg_cmp (((((z ((((((v.toInt64 &&& 4294967295) / 1024) - ((v.toInt64 &&& 4294967295) / 1024) / 8 * 8).toInt32) + 0) + 8).toNatClampNeg).toInt64) &&& 4294967295) / 1) - ((((z ((((((v.toInt64 &&& 4294967295) / 1024) - ((v.toInt64 &&& 4294967295) / 1024) / 8 * 8).toInt32) + 0) + 8).toNatClampNeg).toInt64) &&& 4294967295) / 1) / 2 * 2) 0 = 0 then
                    (4, fo)
                  else
                    ((s_b232 how ((((((z ((((((v.toInt64 &&& 4294967295) / 1024) - ((v.toInt64 &&& 4294967295) / 1024) / 8 * 8).toInt32) + 0) + 8).toNatClampNeg).toInt64) &&& 4294967295) / 1024) * 1024) + ((v.toInt64 &&& 4294967295) - (v.toInt64 &&& 4294967295) / 1024 * 1024))).1, ((s_b232 how ((((((z ((((((v.toInt64 &&& 4294967295) / 1024) - ((v.toInt64 &&& 4294967295) / 1024) / 8 * 8).toInt32) + 0) + 8).toNatClampNeg).toInt64) &&& 4294967295) / 1024) * 1024) + ((v.toInt64 &&& 4294967295) - (v.toInt64 &&& 4294967295) / 1024 * 1024))).2))
                else
                  if lg_cmp (((((z ((((((v.toInt64 &&& 4294967295) / 1024) - ((v.toInt64 &&& 4294967295) / 1024) / 8 * 8).toInt32) + 0) + 8).toNatClampNeg).toInt64) &&& 4294967295) / 4) - ((((z ((((((v.toInt64 &&& 4294967295) / 1024) - ((v.toInt64 &&& 4294967295) / 1024) / 8 * 8).toInt32) + 0) + 8).toNatClampNeg).toInt64) &&& 4294967295) / 4) / 2 * 2) 0 = 0 then
                    (4, fo)
                  else
                    ((s_b232 how ((((((z ((((((v.toInt64 &&& 4294967295) / 1024) - ((v.toInt64 &&& 4294967295) / 1024) / 8 * 8).toInt32) + 0) + 8).toNatClampNeg).toInt64) &&& 4294967295) / 1024) * 1024) + ((v.toInt64 &&& 4294967295) - (v.toInt64 &&& 4294967295) / 1024 * 1024))).1, ((s_b232 how ((((((z ((((((v.toInt64 &&& 4294967295) / 1024) - ((v.toInt64 &&& 4294967295) / 1024) / 8 * 8).toInt32) + 0) + 8).toNatClampNeg).toInt64) &&& 4294967295) / 1024) * 1024) + ((v.toInt64 &&& 4294967295) - (v.toInt64 &&& 4294967295) / 1024 * 1024))).2))
            else
              (10, fo)
      else
        (6, fo)
    else
      if s_M_mode z 4 = 0 then
        ((s_b232 how (v.toInt64 &&& 4294967295)).1, ((s_b232 how (v.toInt64 &&& 4294967295)).2))
      else
        if lg_cmp ((((z (((((v.toInt64 &&& 4294967295) / 1024) - ((v.toInt64 &&& 4294967295) / 1024) / 8 * 8).toInt32) + 16).toNatClampNeg).toInt64) &&& 4294967295) - (((z (((((v.toInt64 &&& 4294967295) / 1024) - ((v.toInt64 &&& 4294967295) / 1024) / 8 * 8).toInt32) + 16).toNatClampNeg).toInt64) &&& 4294967295) / 2 * 2) 0 = 0 then
          (9, fo)
        else
          if lg_cmp ((((z (((((v.toInt64 &&& 4294967295) / 1024) - ((v.toInt64 &&& 4294967295) / 1024) / 8 * 8).toInt32) + 16).toNatClampNeg).toInt64) &&& 4294967295) / 1024) ((v.toInt64 &&& 4294967295) / 1024) = 0 then
            if how = 2 then
              if s_M_mode z 1 = 0 then
                if lg_cmp (((((z ((((((v.toInt64 &&& 4294967295) / 1024) - ((v.toInt64 &&& 4294967295) / 1024) / 8 * 8).toInt32) + 16) + 8).toNatClampNeg).toInt64) &&& 4294967295) / 2) - ((((z ((((((v.toInt64 &&& 4294967295) / 1024) - ((v.toInt64 &&& 4294967295) / 1024) / 8 * 8).toInt32) + 16) + 8).toNatClampNeg).toInt64) &&& 4294967295) / 2) / 2 * 2) 0 = 0 then
                  (3, fo)
                else
                  ((s_b232 how ((((((z ((((((v.toInt64 &&& 4294967295) / 1024) - ((v.toInt64 &&& 4294967295) / 1024) / 8 * 8).toInt32) + 16) + 8).toNatClampNeg).toInt64) &&& 4294967295) / 1024) * 1024) + ((v.toInt64 &&& 4294967295) - (v.toInt64 &&& 4294967295) / 1024 * 1024))).1, ((s_b232 how ((((((z ((((((v.toInt64 &&& 4294967295) / 1024) - ((v.toInt64 &&& 4294967295) / 1024) / 8 * 8).toInt32) + 16) + 8).toNatClampNeg).toInt64) &&& 4294967295) / 1024) * 1024) + ((v.toInt64 &&& 4294967295) - (v.toInt64 &&& 4294967295) / 1024 * 1024))).2))
              else
                if lg_cmp (((((z ((((((v.toInt64 &&& 4294967295) / 1024) - ((v.toInt64 &&& 4294967295) / 1024) / 8 * 8).toInt32) + 16) + 8).toNatClampNeg).toInt64) &&& 4294967295) / 8) - ((((z ((((((v.toInt64 &&& 4294967295) / 1024) - ((v.toInt64 &&& 4294967295) / 1024) / 8 * 8).toInt32) + 16) + 8).toNatClampNeg).toInt64) &&& 4294967295) / 8) / 2 * 2) 0 = 0 then
                  (3, fo)
                else
                  ((s_b232 how ((((((z ((((((v.toInt64 &&& 4294967295) / 1024) - ((v.toInt64 &&& 4294967295) / 1024) / 8 * 8).toInt32) + 16) + 8).toNatClampNeg).toInt64) &&& 4294967295) / 1024) * 1024) + ((v.toInt64 &&& 4294967295) - (v.toInt64 &&& 4294967295) / 1024 * 1024))).1, ((s_b232 how ((((((z ((((((v.toInt64 &&& 4294967295) / 1024) - ((v.toInt64 &&& 4294967295) / 1024) / 8 * 8).toInt32) + 16) + 8).toNatClampNeg).toInt64) &&& 4294967295) / 1024) * 1024) + ((v.toInt64 &&& 4294967295) - (v.toInt64 &&& 4294967295) / 1024 * 1024))).2))
            else
              if s_M_mode z 1 = 0 then
                if lg_cmp (((((z ((((((v.toInt64 &&& 4294967295) / 1024) - ((v.toInt64 &&& 4294967295) / 1024) / 8 * 8).toInt32) + 16) + 8).toNatClampNeg).toInt64) &&& 4294967295) / 1) - ((((z ((((((v.toInt64 &&& 4294967295) / 1024) - ((v.toInt64 &&& 4294967295) / 1024) / 8 * 8).toInt32) + 16) + 8).toNatClampNeg).toInt64) &&& 4294967295) / 1) / 2 * 2) 0 = 0 then
                  (3, fo)
                else
                  ((s_b232 how ((((((z ((((((v.toInt64 &&& 4294967295) / 1024) - ((v.toInt64 &&& 4294967295) / 1024) / 8 * 8).toInt32) + 16) + 8).toNatClampNeg).toInt64) &&& 4294967295) / 1024) * 1024) + ((v.toInt64 &&& 4294967295) - (v.toInt64 &&& 4294967295) / 1024 * 1024))).1, ((s_b232 how ((((((z ((((((v.toInt64 &&& 4294967295) / 1024) - ((v.toInt64 &&& 4294967295) / 1024) / 8 * 8).toInt32) + 16) + 8).toNatClampNeg).toInt64) &&& 4294967295) / 1024) * 1024) + ((v.toInt64 &&& 4294967295) - (v.toInt64 &&& 4294967295) / 1024 * 1024))).2))
              else
                if lg_cmp (((((z ((((((v.toInt64 &&& 4294967295) / 1024) - ((v.toInt64 &&& 4294967295) / 1024) / 8 * 8).toInt32) + 16) + 8).toNatClampNeg).toInt64) &&& 4294967295) / 4) - ((((z ((((((v.toInt64 &&& 4294967295) / 1024) - ((v.toInt64 &&& 4294967295) / 1024) / 8 * 8).toInt32) + 16) + 8).toNatClampNeg).toInt64) &&& 4294967295) / 4) / 2 * 2) 0 = 0 then
                  (3, fo)
                else
                  ((s_b232 how ((((((z ((((((v.toInt64 &&& 4294967295) / 1024) - ((v.toInt64 &&& 4294967295) / 1024) / 8 * 8).toInt32) + 16) + 8).toNatClampNeg).toInt64) &&& 4294967295) / 1024) * 1024) + ((v.toInt64 &&& 4294967295) - (v.toInt64 &&& 4294967295) / 1024 * 1024))).1, ((s_b232 how ((((((z ((((((v.toInt64 &&& 4294967295) / 1024) - ((v.toInt64 &&& 4294967295) / 1024) / 8 * 8).toInt32) + 16) + 8).toNatClampNeg).toInt64) &&& 4294967295) / 1024) * 1024) + ((v.toInt64 &&& 4294967295) - (v.toInt64 &&& 4294967295) / 1024 * 1024))).2))
          else
            (9, fo)
  else
    if v &&& 3 = 0 then
      if how = 0 then
        if s_M_mode z 2 = 0 then
          ((s_b232 how (v.toInt64 &&& 4294967295)).1, ((s_b232 how (v.toInt64 &&& 4294967295)).2))
        else
          if lg_cmp ((((z (((((v.toInt64 &&& 4294967295) / 1024) - ((v.toInt64 &&& 4294967295) / 1024) / 8 * 8).toInt32) + 0).toNatClampNeg).toInt64) &&& 4294967295) - (((z (((((v.toInt64 &&& 4294967295) / 1024) - ((v.toInt64 &&& 4294967295) / 1024) / 8 * 8).toInt32) + 0).toNatClampNeg).toInt64) &&& 4294967295) / 2 * 2) 0 = 0 then
            (10, fo)
          else
            if lg_cmp ((((z (((((v.toInt64 &&& 4294967295) / 1024) - ((v.toInt64 &&& 4294967295) / 1024) / 8 * 8).toInt32) + 0).toNatClampNeg).toInt64) &&& 4294967295) / 1024) ((v.toInt64 &&& 4294967295) / 1024) = 0 then
              if how = 2 then
                if s_M_mode z 1 = 0 then
                  if lg_cmp (((((z ((((((v.toInt64 &&& 4294967295) / 1024) - ((v.toInt64 &&& 4294967295) / 1024) / 8 * 8).toInt32) + 0) + 8).toNatClampNeg).toInt64) &&& 4294967295) / 2) - ((((z ((((((v.toInt64 &&& 4294967295) / 1024) - ((v.toInt64 &&& 4294967295) / 1024) / 8 * 8).toInt32) + 0) + 8).toNatClampNeg).toInt64) &&& 4294967295) / 2) / 2 * 2) 0 = 0 then
                    (4, fo)
                  else
                    ((s_b232 how ((((((z ((((((v.toInt64 &&& 4294967295) / 1024) - ((v.toInt64 &&& 4294967295) / 1024) / 8 * 8).toInt32) + 0) + 8).toNatClampNeg).toInt64) &&& 4294967295) / 1024) * 1024) + ((v.toInt64 &&& 4294967295) - (v.toInt64 &&& 4294967295) / 1024 * 1024))).1, ((s_b232 how ((((((z ((((((v.toInt64 &&& 4294967295) / 1024) - ((v.toInt64 &&& 4294967295) / 1024) / 8 * 8).toInt32) + 0) + 8).toNatClampNeg).toInt64) &&& 4294967295) / 1024) * 1024) + ((v.toInt64 &&& 4294967295) - (v.toInt64 &&& 4294967295) / 1024 * 1024))).2))
                else
                  if lg_cmp (((((z ((((((v.toInt64 &&& 4294967295) / 1024) - ((v.toInt64 &&& 4294967295) / 1024) / 8 * 8).toInt32) + 0) + 8).toNatClampNeg).toInt64) &&& 4294967295) / 8) - ((((z ((((((v.toInt64 &&& 4294967295) / 1024) - ((v.toInt64 &&& 4294967295) / 1024) / 8 * 8).toInt32) + 0) + 8).toNatClampNeg).toInt64) &&& 4294967295) / 8) / 2 * 2) 0 = 0 then
                    (4, fo)
                  else
                    ((s_b232 how ((((((z ((((((v.toInt64 &&& 4294967295) / 1024) - ((v.toInt64 &&& 4294967295) / 1024) / 8 * 8).toInt32) + 0) + 8).toNatClampNeg).toInt64) &&& 4294967295) / 1024) * 1024) + ((v.toInt64 &&& 4294967295) - (v.toInt64 &&& 4294967295) / 1024 * 1024))).1, ((s_b232 how ((((((z ((((((v.toInt64 &&& 4294967295) / 1024) - ((v.toInt64 &&& 4294967295) / 1024) / 8 * 8).toInt32) + 0) + 8).toNatClampNeg).toInt64) &&& 4294967295) / 1024) * 1024) + ((v.toInt64 &&& 4294967295) - (v.toInt64 &&& 4294967295) / 1024 * 1024))).2))
              else
                if s_M_mode z 1 = 0 then
                  if lg_cmp (((((z ((((((v.toInt64 &&& 4294967295) / 1024) - ((v.toInt64 &&& 4294967295) / 1024) / 8 * 8).toInt32) + 0) + 8).toNatClampNeg).toInt64) &&& 4294967295) / 1) - ((((z ((((((v.toInt64 &&& 4294967295) / 1024) - ((v.toInt64 &&& 4294967295) / 1024) / 8 * 8).toInt32) + 0) + 8).toNatClampNeg).toInt64) &&& 4294967295) / 1) / 2 * 2) 0 = 0 then
                    (4, fo)
                  else
                    ((s_b232 how ((((((z ((((((v.toInt64 &&& 4294967295) / 1024) - ((v.toInt64 &&& 4294967295) / 1024) / 8 * 8).toInt32) + 0) + 8).toNatClampNeg).toInt64) &&& 4294967295) / 1024) * 1024) + ((v.toInt64 &&& 4294967295) - (v.toInt64 &&& 4294967295) / 1024 * 1024))).1, ((s_b232 how ((((((z ((((((v.toInt64 &&& 4294967295) / 1024) - ((v.toInt64 &&& 4294967295) / 1024) / 8 * 8).toInt32) + 0) + 8).toNatClampNeg).toInt64) &&& 4294967295) / 1024) * 1024) + ((v.toInt64 &&& 4294967295) - (v.toInt64 &&& 4294967295) / 1024 * 1024))).2))
                else
                  if lg_cmp (((((z ((((((v.toInt64 &&& 4294967295) / 1024) - ((v.toInt64 &&& 4294967295) / 1024) / 8 * 8).toInt32) + 0) + 8).toNatClampNeg).toInt64) &&& 4294967295) / 4) - ((((z ((((((v.toInt64 &&& 4294967295) / 1024) - ((v.toInt64 &&& 4294967295) / 1024) / 8 * 8).toInt32) + 0) + 8).toNatClampNeg).toInt64) &&& 4294967295) / 4) / 2 * 2) 0 = 0 then
                    (4, fo)
                  else
                    ((s_b232 how ((((((z ((((((v.toInt64 &&& 4294967295) / 1024) - ((v.toInt64 &&& 4294967295) / 1024) / 8 * 8).toInt32) + 0) + 8).toNatClampNeg).toInt64) &&& 4294967295) / 1024) * 1024) + ((v.toInt64 &&& 4294967295) - (v.toInt64 &&& 4294967295) / 1024 * 1024))).1, ((s_b232 how ((((((z ((((((v.toInt64 &&& 4294967295) / 1024) - ((v.toInt64 &&& 4294967295) / 1024) / 8 * 8).toInt32) + 0) + 8).toNatClampNeg).toInt64) &&& 4294967295) / 1024) * 1024) + ((v.toInt64 &&& 4294967295) - (v.toInt64 &&& 4294967295) / 1024 * 1024))).2))
            else
              (10, fo)
      else
        if s_M_mode z 4 = 0 then
          ((s_b232 how (v.toInt64 &&& 4294967295)).1, ((s_b232 how (v.toInt64 &&& 4294967295)).2))
        else
          if lg_cmp ((((z (((((v.toInt64 &&& 4294967295) / 1024) - ((v.toInt64 &&& 4294967295) / 1024) / 8 * 8).toInt32) + 16).toNatClampNeg).toInt64) &&& 4294967295) - (((z (((((v.toInt64 &&& 4294967295) / 1024) - ((v.toInt64 &&& 4294967295) / 1024) / 8 * 8).toInt32) + 16).toNatClampNeg).toInt64) &&& 4294967295) / 2 * 2) 0 = 0 then
            (9, fo)
          else
            if lg_cmp ((((z (((((v.toInt64 &&& 4294967295) / 1024) - ((v.toInt64 &&& 4294967295) / 1024) / 8 * 8).toInt32) + 16).toNatClampNeg).toInt64) &&& 4294967295) / 1024) ((v.toInt64 &&& 4294967295) / 1024) = 0 then
              if how = 2 then
                if s_M_mode z 1 = 0 then
                  if lg_cmp (((((z ((((((v.toInt64 &&& 4294967295) / 1024) - ((v.toInt64 &&& 4294967295) / 1024) / 8 * 8).toInt32) + 16) + 8).toNatClampNeg).toInt64) &&& 4294967295) / 2) - ((((z ((((((v.toInt64 &&& 4294967295) / 1024) - ((v.toInt64 &&& 4294967295) / 1024) / 8 * 8).toInt32) + 16) + 8).toNatClampNeg).toInt64) &&& 4294967295) / 2) / 2 * 2) 0 = 0 then
                    (3, fo)
                  else
                    ((s_b232 how ((((((z ((((((v.toInt64 &&& 4294967295) / 1024) - ((v.toInt64 &&& 4294967295) / 1024) / 8 * 8).toInt32) + 16) + 8).toNatClampNeg).toInt64) &&& 4294967295) / 1024) * 1024) + ((v.toInt64 &&& 4294967295) - (v.toInt64 &&& 4294967295) / 1024 * 1024))).1, ((s_b232 how ((((((z ((((((v.toInt64 &&& 4294967295) / 1024) - ((v.toInt64 &&& 4294967295) / 1024) / 8 * 8).toInt32) + 16) + 8).toNatClampNeg).toInt64) &&& 4294967295) / 1024) * 1024) + ((v.toInt64 &&& 4294967295) - (v.toInt64 &&& 4294967295) / 1024 * 1024))).2))
                else
                  if lg_cmp (((((z ((((((v.toInt64 &&& 4294967295) / 1024) - ((v.toInt64 &&& 4294967295) / 1024) / 8 * 8).toInt32) + 16) + 8).toNatClampNeg).toInt64) &&& 4294967295) / 8) - ((((z ((((((v.toInt64 &&& 4294967295) / 1024) - ((v.toInt64 &&& 4294967295) / 1024) / 8 * 8).toInt32) + 16) + 8).toNatClampNeg).toInt64) &&& 4294967295) / 8) / 2 * 2) 0 = 0 then
                    (3, fo)
                  else
                    ((s_b232 how ((((((z ((((((v.toInt64 &&& 4294967295) / 1024) - ((v.toInt64 &&& 4294967295) / 1024) / 8 * 8).toInt32) + 16) + 8).toNatClampNeg).toInt64) &&& 4294967295) / 1024) * 1024) + ((v.toInt64 &&& 4294967295) - (v.toInt64 &&& 4294967295) / 1024 * 1024))).1, ((s_b232 how ((((((z ((((((v.toInt64 &&& 4294967295) / 1024) - ((v.toInt64 &&& 4294967295) / 1024) / 8 * 8).toInt32) + 16) + 8).toNatClampNeg).toInt64) &&& 4294967295) / 1024) * 1024) + ((v.toInt64 &&& 4294967295) - (v.toInt64 &&& 4294967295) / 1024 * 1024))).2))
              else
                if s_M_mode z 1 = 0 then
                  if lg_cmp (((((z ((((((v.toInt64 &&& 4294967295) / 1024) - ((v.toInt64 &&& 4294967295) / 1024) / 8 * 8).toInt32) + 16) + 8).toNatClampNeg).toInt64) &&& 4294967295) / 1) - ((((z ((((((v.toInt64 &&& 4294967295) / 1024) - ((v.toInt64 &&& 4294967295) / 1024) / 8 * 8).toInt32) + 16) + 8).toNatClampNeg).toInt64) &&& 4294967295) / 1) / 2 * 2) 0 = 0 then
                    (3, fo)
                  else
                    ((s_b232 how ((((((z ((((((v.toInt64 &&& 4294967295) / 1024) - ((v.toInt64 &&& 4294967295) / 1024) / 8 * 8).toInt32) + 16) + 8).toNatClampNeg).toInt64) &&& 4294967295) / 1024) * 1024) + ((v.toInt64 &&& 4294967295) - (v.toInt64 &&& 4294967295) / 1024 * 1024))).1, ((s_b232 how ((((((z ((((((v.toInt64 &&& 4294967295) / 1024) - ((v.toInt64 &&& 4294967295) / 1024) / 8 * 8).toInt32) + 16) + 8).toNatClampNeg).toInt64) &&& 4294967295) / 1024) * 1024) + ((v.toInt64 &&& 4294967295) - (v.toInt64 &&& 4294967295) / 1024 * 1024))).2))
                else
                  if lg_cmp (((((z ((((((v.toInt64 &&& 4294967295) / 1024) - ((v.toInt64 &&& 4294967295) / 1024) / 8 * 8).toInt32) + 16) + 8).toNatClampNeg).toInt64) &&& 4294967295) / 4) - ((((z ((((((v.toInt64 &&& 4294967295) / 1024) - ((v.toInt64 &&& 4294967295) / 1024) / 8 * 8).toInt32) + 16) + 8).toNatClampNeg).toInt64) &&& 4294967295) / 4) / 2 * 2) 0 = 0 then
                    (3, fo)
                  else
                    ((s_b232 how ((((((z ((((((v.toInt64 &&& 4294967295) / 1024) - ((v.toInt64 &&& 4294967295) / 1024) / 8 * 8).toInt32) + 16) + 8).toNatClampNeg).toInt64) &&& 4294967295) / 1024) * 1024) + ((v.toInt64 &&& 4294967295) - (v.toInt64 &&& 4294967295) / 1024 * 1024))).1, ((s_b232 how ((((((z ((((((v.toInt64 &&& 4294967295) / 1024) - ((v.toInt64 &&& 4294967295) / 1024) / 8 * 8).toInt32) + 16) + 8).toNatClampNeg).toInt64) &&& 4294967295) / 1024) * 1024) + ((v.toInt64 &&& 4294967295) - (v.toInt64 &&& 4294967295) / 1024 * 1024))).2))
            else
              (9, fo)
    else
      (6, fo)
set_option maxHeartbeats 4000000 in
set_option maxRecDepth 100000 in
theorem c_M_wrong (l : Launch) (dC : Nat → ClassId) (dI : Nat → Nat → Nat) (sz : Nat) (k0 yb zb : Nat) (cI : ClassId) (y z : Nat → Int32) (th a1 a2 a3 a4 a5 a6 fo : Int32) (v : Int32) (how : Int32) (wd : Int32)  : Met l yM_wrong wsM_wrong ({ frames := 1, cells := 0, slots := 0, locals := 21 }) (va_Pc [.ref k0, .int v, .int how, .int wd] (fun U => U.heap.size = sz ∧ va_P (dC, dI) vwCl [(k0, .inr (2, [.int th, .ref yb, .ref zb, .int a1, .int a2, .int a3, .int a4, .int a5, .int a6, .int fo])), (yb, .inl (cI, 65536, .inl y)), (zb, .inl (cI, 33, .inl z))] U.heap ∧ va_K (dC, dI) vwCl [(cI, .int)] U ∧ va_D (fun _ => True) [(k0, .inr (2, [.int th, .ref yb, .ref zb, .int a1, .int a2, .int a3, .int a4, .int a5, .int a6, .int fo])), (yb, .inl (cI, 65536, .inl y)), (zb, .inl (cI, 33, .inl z))])) (va_Qi (fun (a_ : Int32) (u : Int32) => (a_, u) = s_M_wrong z fo v how wd) (fun (u : Int32) (t : State) => va_P (dC, dI) vwCl [(k0, .inr (2, [.int th, .ref yb, .ref zb, .int a1, .int a2, .int a3, .int a4, .int a5, .int a6, .int u])), (yb, .inl (cI, 65536, .inl y)), (zb, .inl (cI, 33, .inl z))] t.heap ∧ va_K (dC, dI) vwCl [(cI, .int)] t ∧ va_D (va_A [(k0, .inr (2, [.int th, .ref yb, .ref zb, .int a1, .int a2, .int a3, .int a4, .int a5, .int a6, .int fo])), (yb, .inl (cI, 65536, .inl y)), (zb, .inl (cI, 33, .inl z))] sz) [(k0, .inr (2, [.int th, .ref yb, .ref zb, .int a1, .int a2, .int a3, .int a4, .int a5, .int a6, .int u])), (yb, .inl (cI, 65536, .inl y)), (zb, .inl (cI, 33, .inl z))]) (va_A [(k0, .inr (2, [.int th, .ref yb, .ref zb, .int a1, .int a2, .int a3, .int a4, .int a5, .int a6, .int fo])), (yb, .inl (cI, 65536, .inl y)), (zb, .inl (cI, 33, .inl z))] sz)) 0 0 (va_A [(k0, .inr (2, [.int th, .ref yb, .ref zb, .int a1, .int a2, .int a3, .int a4, .int a5, .int a6, .int fo])), (yb, .inl (cI, 65536, .inl y)), (zb, .inl (cI, 33, .inl z))] sz) := by
  refine Met.ofW (cc := cM_wrong) (maxL := 16) (ret := (some .int)) (by decide) rfl ?_
  intro p e s m args below meth c s₁ B hml hv
  obtain ⟨rfl, hsz, hP, hK, hD0⟩ := hv
  have hx := B.exec
  have hb := B.bytes
  have hr := B.returns
  have hts := atoms_spec (ws := wsM_wrong) B.pre
  have hown : s.vm.findClass RX2 = some m.cls := findClass_of_methodNamed B.named
  have hlocks := B.notSynchronized
  subst hsz
  have hD := hD0.self (sz := s.heap.size)
  generalize hAe : va_A [(k0, .inr (2, [.int th, .ref yb, .ref zb, .int a1, .int a2, .int a3, .int a4, .int a5, .int a6, .int fo])), (yb, .inl (cI, 65536, .inl y)), (zb, .inl (cI, 33, .inl z))] s.heap.size = A at hD ⊢
  have hA : ∀ q : Nat, s.heap.size ≤ q → A q := fun q h => by rw [← hAe]; exact Or.inr h
  have hS : va_S A s.heap s.heap [] := va_S.rf
  have hP : va_P (dC, dI) vwCl [(k0, .inr (2, [.int th, .ref yb, .ref zb, .int a1, .int a2, .int a3, .int a4, .int a5, .int a6, .int fo])), (yb, .inl (cI, 65536, .inl y)), (zb, .inl (cI, 33, .inl z))] s.heap := hP
  have hl := lv_entry ([.ref k0, .int v, .int how, .int wd]) (n := 16) (Nat.le_of_ble_eq_true rfl)
  rw [lg_entry_eq]
  generalize (lg_sl ([.ref k0, .int v, .int how, .int wd]) ++ List.replicate (16 - (lg_sl ([.ref k0, .int v, .int how, .int wd])).length) Slot.unset).toArray = ls at hl ⊢
  have hl : lv_has ls 16 [(0, .ref k0), (1, .int v), (2, .int how), (3, .int wd)] := hl
  refine lv_iload_n hx hb dM_wrong_0 rfl (lv_at hl 3 rfl) ?_
  refine lv_if_ne (tgt := 8) hx hb dM_wrong_1 (by decide) (fun c_1 => ?_) (fun c_1 => ?_)
  · skip
    refine lv_iconst (v := 1) hx hb dM_wrong_8 (by decide) ?_
    refine lv_goto (tgt := 13) hx hb dM_wrong_9 (by decide) ?_
    refine lv_istore (lv' := [(4, .int 1), (0, .ref k0), (1, .int v), (2, .int how), (3, .int wd)]) hx hb dM_wrong_13 hl (by decide) rfl (fun ls hl => ?_)
    refine lv_iload hx hb dM_wrong_15 (lv_at hl 0 rfl) ?_
    refine lv_if_eq (tgt := 29) hx hb dM_wrong_17 (by decide) (fun c_2 => ?_) (fun c_2 => ?_)
    · exact absurd c_2 (by decide)
    · skip
      refine lv_iload_n hx hb dM_wrong_20 rfl (lv_at hl 2 rfl) ?_
      refine lv_iconst (v := 3) hx hb dM_wrong_21 (by decide) ?_
      refine lv_iand hx hb dM_wrong_22 ?_
      refine lv_if_eq (tgt := 29) hx hb dM_wrong_23 (by decide) (fun c_3 => ?_) (fun c_3 => ?_)
      · skip
        refine lv_iload_n hx hb dM_wrong_29 rfl (lv_at hl 2 rfl) ?_
        refine lv_i2l (v := v.toInt64) hx hb dM_wrong_30 rfl ?_
        refine lv_ldc2 (v := 4294967295) hx hb hown (hts _ mbM_wrong_4) dM_wrong_31 ?_
        refine lv_land hx hb dM_wrong_34 ?_
        refine lv_lstore (lv' := [(5, .long (v.toInt64 &&& 4294967295)), (4, .int 1), (0, .ref k0), (1, .int v), (2, .int how), (3, .int wd)]) hx hb dM_wrong_35 hl (by decide) rfl (fun ls hl => ?_)
        refine lv_aload_n hx hb dM_wrong_37 rfl (lv_at hl 2 rfl) ?_
        refine lv_iload_n hx hb dM_wrong_38 rfl (lv_at hl 4 rfl) ?_
        refine lv_if_ne (tgt := 46) hx hb dM_wrong_39 (by decide) (fun c_4 => ?_) (fun c_4 => ?_)
        · skip
          refine lv_iconst (v := 4) hx hb dM_wrong_46 (by decide) ?_
          have hPc := hP.sub (ws' := [(k0, .inr (2, [.int th, .ref yb, .ref zb, .int a1, .int a2, .int a3, .int a4, .int a5, .int a6, .int fo])), (yb, .inl (cI, 65536, .inl y)), (zb, .inl (cI, 33, .inl z))]) [0, 1, 2] rfl
          have hKc := hK.sub (tys' := [(cI, .int)]) [0] rfl
          refine vp_callSi (va_Run.run (va_runV (As := [.int 4]) (rest := []) ⟨hx, hb, hml, hown, hts⟩ (c_M_mode l dC dI k0 yb zb cI y z th a1 a2 a3 a4 a5 a6 fo 4 (by decide)) (cwV 1 hts gM_wrong_M_mode rfl rfl rfl (by decide +kernel) ⟨Nat.le_of_ble_eq_true rfl, Nat.le_of_ble_eq_true rfl⟩) ⟨fun a U g mk q => by obtain ⟨q0, qP, qK⟩ := q; exact ⟨q0, qP, va_K.moved (u := U) (U := U.calling g mk a) (Vm.Alike.refl U.vm) qK⟩, va_recv hKc hPc (ci := 2) (q0 := 0) rfl rfl, fun U hU hW => ⟨rfl, by rw [hU]; exact hPc, va_K.moved hW.alike hKc⟩⟩ rfl rfl hl.1 rfl (lv_room (Nat.le_of_ble_eq_true rfl)) dM_wrong_47 ⟨Nat.le_of_ble_eq_true rfl, Nat.le_of_ble_eq_true rfl⟩)) (fun r_5 hw_6 => ?_)
          subst hw_6
          refine lv_if_eq (tgt := 232) hx hb dM_wrong_50 (by decide) (fun c_7 => ?_) (fun c_7 => ?_)
          · skip
            refine b_M_wrong hx hb hown hts dC dI k0 yb zb cI y z th a1 a2 a3 a4 a5 a6 fo how (v.toInt64 &&& 4294967295) hK _ _ ls hP hD hS (lv_sub hl [0, 4, 2] rfl) (fun H locs ls hls hP hD hS => ?_)
            exact W.iret (v := (s_b232 how (v.toInt64 &&& 4294967295)).1) hx hb hr (fun t ht hW => ⟨⟨(s_b232 how (v.toInt64 &&& 4294967295)).1, ((s_b232 how (v.toInt64 &&& 4294967295)).2), rfl, by simp only [s_M_wrong, if_neg c_1, if_pos c_3, if_neg c_4, if_pos c_7], by rw [ht]; exact hP, va_K.moved hW.alike hK, hD⟩, hS.F ht⟩) hS.2.2 dM_wrong_309
          · skip
            refine lv_lload hx hb dM_wrong_53 (lv_at hl 0 rfl) ?_
            refine lv_ldc2 (v := 1024) hx hb hown (hts _ mbM_wrong_5) dM_wrong_55 ?_
            refine lv_ldiv hx hb dM_wrong_58 (by decide) ?_
            refine lv_lstore (lv' := [(7, .long ((v.toInt64 &&& 4294967295) / 1024)), (5, .long (v.toInt64 &&& 4294967295)), (4, .int 1), (0, .ref k0), (1, .int v), (2, .int how), (3, .int wd)]) hx hb dM_wrong_59 hl (by decide) rfl (fun ls hl => ?_)
            refine lv_lload hx hb dM_wrong_61 (lv_at hl 0 rfl) ?_
            refine lv_ldc2 (v := 8) hx hb hown (hts _ mbM_wrong_6) dM_wrong_63 ?_
            refine lv_lrem hx hb dM_wrong_66 (by decide) ?_
            refine lv_l2i (v := (((v.toInt64 &&& 4294967295) / 1024) - ((v.toInt64 &&& 4294967295) / 1024) / 8 * 8).toInt32) hx hb dM_wrong_67 rfl ?_
            refine lv_iload_n hx hb dM_wrong_68 rfl (lv_at hl 5 rfl) ?_
            refine lv_if_ne (tgt := 76) hx hb dM_wrong_69 (by decide) (fun c_8 => ?_) (fun c_8 => ?_)
            · skip
              refine lv_bipush (v := 16) hx hb dM_wrong_76 (by decide) ?_
              refine lv_iadd hx hb dM_wrong_78 ?_
              refine lv_istore (lv' := [(9, .int (((((v.toInt64 &&& 4294967295) / 1024) - ((v.toInt64 &&& 4294967295) / 1024) / 8 * 8).toInt32) + 16)), (7, .long ((v.toInt64 &&& 4294967295) / 1024)), (5, .long (v.toInt64 &&& 4294967295)), (4, .int 1), (0, .ref k0), (1, .int v), (2, .int how), (3, .int wd)]) hx hb dM_wrong_79 hl (by decide) rfl (fun ls hl => ?_)
              refine lv_aload_n hx hb dM_wrong_81 rfl (lv_at hl 4 rfl) ?_
              refine va_get (D := (dC, dI)) (ci := 2) (v := .ref zb) (C := RX2) (T := TX2) (N := 10) hx hb hts miM_wrong_X2 hown hK hP 0 rfl rfl 2 (by decide) (hts _ mbM_wrong_7) (fun _ h9 => h9) rfl dM_wrong_82 ?_
              refine lv_iload hx hb dM_wrong_85 (lv_at hl 0 rfl) ?_
              refine va_iald hx hb hK hP 2 0 rfl rfl (in_w v 16 (by decide) _ rfl) dM_wrong_87 ?_
              refine lv_i2l (v := (z (((((v.toInt64 &&& 4294967295) / 1024) - ((v.toInt64 &&& 4294967295) / 1024) / 8 * 8).toInt32) + 16).toNatClampNeg).toInt64) hx hb dM_wrong_88 rfl ?_
              refine lv_ldc2 (v := 4294967295) hx hb hown (hts _ mbM_wrong_4) dM_wrong_89 ?_
              refine lv_land hx hb dM_wrong_92 ?_
              refine lv_lstore (lv' := [(10, .long (((z (((((v.toInt64 &&& 4294967295) / 1024) - ((v.toInt64 &&& 4294967295) / 1024) / 8 * 8).toInt32) + 16).toNatClampNeg).toInt64) &&& 4294967295)), (9, .int (((((v.toInt64 &&& 4294967295) / 1024) - ((v.toInt64 &&& 4294967295) / 1024) / 8 * 8).toInt32) + 16)), (7, .long ((v.toInt64 &&& 4294967295) / 1024)), (5, .long (v.toInt64 &&& 4294967295)), (4, .int 1), (0, .ref k0), (1, .int v), (2, .int how), (3, .int wd)]) hx hb dM_wrong_93 hl (by decide) rfl (fun ls hl => ?_)
              refine lv_aload_n hx hb dM_wrong_95 rfl (lv_at hl 5 rfl) ?_
              refine va_get (D := (dC, dI)) (ci := 2) (v := .ref zb) (C := RX2) (T := TX2) (N := 10) hx hb hts miM_wrong_X2 hown hK hP 0 rfl rfl 2 (by decide) (hts _ mbM_wrong_7) (fun _ h9 => h9) rfl dM_wrong_96 ?_
              refine lv_iload hx hb dM_wrong_99 (lv_at hl 1 rfl) ?_
              refine lv_bipush (v := 8) hx hb dM_wrong_101 (by decide) ?_
              refine lv_iadd hx hb dM_wrong_103 ?_
              refine va_iald hx hb hK hP 2 0 rfl rfl (in_w8 v 16 (by decide) _ rfl) dM_wrong_104 ?_
              refine lv_i2l (v := (z ((((((v.toInt64 &&& 4294967295) / 1024) - ((v.toInt64 &&& 4294967295) / 1024) / 8 * 8).toInt32) + 16) + 8).toNatClampNeg).toInt64) hx hb dM_wrong_105 rfl ?_
              refine lv_ldc2 (v := 4294967295) hx hb hown (hts _ mbM_wrong_4) dM_wrong_106 ?_
              refine lv_land hx hb dM_wrong_109 ?_
              refine lv_lstore (lv' := [(12, .long (((z ((((((v.toInt64 &&& 4294967295) / 1024) - ((v.toInt64 &&& 4294967295) / 1024) / 8 * 8).toInt32) + 16) + 8).toNatClampNeg).toInt64) &&& 4294967295)), (10, .long (((z (((((v.toInt64 &&& 4294967295) / 1024) - ((v.toInt64 &&& 4294967295) / 1024) / 8 * 8).toInt32) + 16).toNatClampNeg).toInt64) &&& 4294967295)), (9, .int (((((v.toInt64 &&& 4294967295) / 1024) - ((v.toInt64 &&& 4294967295) / 1024) / 8 * 8).toInt32) + 16)), (7, .long ((v.toInt64 &&& 4294967295) / 1024)), (5, .long (v.toInt64 &&& 4294967295)), (4, .int 1), (0, .ref k0), (1, .int v), (2, .int how), (3, .int wd)]) hx hb dM_wrong_110 hl (by decide) rfl (fun ls hl => ?_)
              refine lv_lload hx hb dM_wrong_112 (lv_at hl 1 rfl) ?_
              refine lv_ldc2 (v := 2) hx hb hown (hts _ mbM_wrong_8) dM_wrong_114 ?_
              refine lv_lrem hx hb dM_wrong_117 (by decide) ?_
              refine lv_lconst (v := 0) hx hb dM_wrong_118 (by decide) ?_
              refine W.lcmp hx hb dM_wrong_119 ?_
              refine lv_if_eq (tgt := 135) hx hb dM_wrong_120 (by decide) (fun c_9 => ?_) (fun c_9 => ?_)
              · skip
                refine lv_iload_n hx hb dM_wrong_135 rfl (lv_at hl 8 rfl) ?_
                refine lv_if_ne (tgt := 144) hx hb dM_wrong_136 (by decide) (fun c_10 => ?_) (fun c_10 => ?_)
                · skip
                  refine lv_bipush (v := 9) hx hb dM_wrong_144 (by decide) ?_
                  exact W.iret (v := 9) hx hb hr (fun t ht hW => ⟨⟨9, fo, rfl, by simp only [s_M_wrong, if_neg c_1, if_pos c_3, if_neg c_4, if_neg c_7, if_pos c_9], by rw [ht]; exact hP, va_K.moved hW.alike hK, hD⟩, hS.F ht⟩) hS.2.2 dM_wrong_146
                · exact absurd c_10 c_4
              · skip
                refine lv_lload hx hb dM_wrong_123 (lv_at hl 1 rfl) ?_
                refine lv_ldc2 (v := 1024) hx hb hown (hts _ mbM_wrong_5) dM_wrong_125 ?_
                refine lv_ldiv hx hb dM_wrong_128 (by decide) ?_
                refine lv_lload hx hb dM_wrong_129 (lv_at hl 3 rfl) ?_
                refine W.lcmp hx hb dM_wrong_131 ?_
                refine lv_if_eq (tgt := 147) hx hb dM_wrong_132 (by decide) (fun c_11 => ?_) (fun c_11 => ?_)
                · skip
                  refine lv_iload_n hx hb dM_wrong_147 rfl (lv_at hl 8 rfl) ?_
                  refine lv_iconst (v := 2) hx hb dM_wrong_148 (by decide) ?_
                  refine lv_icmp_ne (tgt := 172) hx hb dM_wrong_149 (by decide) (fun c_12 => ?_) (fun c_12 => ?_)
                  · skip
                    refine lv_aload_n hx hb dM_wrong_172 rfl (lv_at hl 6 rfl) ?_
                    refine lv_iconst (v := 1) hx hb dM_wrong_173 (by decide) ?_
                    have hPc := hP.sub (ws' := [(k0, .inr (2, [.int th, .ref yb, .ref zb, .int a1, .int a2, .int a3, .int a4, .int a5, .int a6, .int fo])), (yb, .inl (cI, 65536, .inl y)), (zb, .inl (cI, 33, .inl z))]) [0, 1, 2] rfl
                    have hKc := hK.sub (tys' := [(cI, .int)]) [0] rfl
                    refine vp_callSi (va_Run.run (va_runV (As := [.int 1]) (rest := []) ⟨hx, hb, hml, hown, hts⟩ (c_M_mode l dC dI k0 yb zb cI y z th a1 a2 a3 a4 a5 a6 fo 1 (by decide)) (cwV 1 hts gM_wrong_M_mode rfl rfl rfl (by decide +kernel) ⟨Nat.le_of_ble_eq_true rfl, Nat.le_of_ble_eq_true rfl⟩) ⟨fun a U g mk q => by obtain ⟨q0, qP, qK⟩ := q; exact ⟨q0, qP, va_K.moved (u := U) (U := U.calling g mk a) (Vm.Alike.refl U.vm) qK⟩, va_recv hKc hPc (ci := 2) (q0 := 0) rfl rfl, fun U hU hW => ⟨rfl, by rw [hU]; exact hPc, va_K.moved hW.alike hKc⟩⟩ rfl rfl hl.1 rfl (lv_room (Nat.le_of_ble_eq_true rfl)) dM_wrong_174 ⟨Nat.le_of_ble_eq_true rfl, Nat.le_of_ble_eq_true rfl⟩)) (fun r_13 hw_14 => ?_)
                    subst hw_14
                    refine lv_if_eq (tgt := 186) hx hb dM_wrong_177 (by decide) (fun c_15 => ?_) (fun c_15 => ?_)
                    · skip
                      refine lv_lconst (v := 1) hx hb dM_wrong_186 (by decide) ?_
                      refine lv_lstore (lv' := [(14, .long 1), (12, .long (((z ((((((v.toInt64 &&& 4294967295) / 1024) - ((v.toInt64 &&& 4294967295) / 1024) / 8 * 8).toInt32) + 16) + 8).toNatClampNeg).toInt64) &&& 4294967295)), (10, .long (((z (((((v.toInt64 &&& 4294967295) / 1024) - ((v.toInt64 &&& 4294967295) / 1024) / 8 * 8).toInt32) + 16).toNatClampNeg).toInt64) &&& 4294967295)), (9, .int (((((v.toInt64 &&& 4294967295) / 1024) - ((v.toInt64 &&& 4294967295) / 1024) / 8 * 8).toInt32) + 16)), (7, .long ((v.toInt64 &&& 4294967295) / 1024)), (5, .long (v.toInt64 &&& 4294967295)), (4, .int 1), (0, .ref k0), (1, .int v), (2, .int how), (3, .int wd)]) hx hb dM_wrong_187 hl (by decide) rfl (fun ls hl => ?_)
                      refine lv_lload hx hb dM_wrong_189 (lv_at hl 1 rfl) ?_
                      refine lv_lload hx hb dM_wrong_191 (lv_at hl 0 rfl) ?_
                      refine lv_ldiv hx hb dM_wrong_193 (by decide) ?_
                      refine lv_ldc2 (v := 2) hx hb hown (hts _ mbM_wrong_8) dM_wrong_194 ?_
                      refine lv_lrem hx hb dM_wrong_197 (by decide) ?_
                      refine lv_lconst (v := 0) hx hb dM_wrong_198 (by decide) ?_
                      refine W.lcmp hx hb dM_wrong_199 ?_
                      refine lv_if_ne (tgt := 213) hx hb dM_wrong_200 (by decide) (fun c_16 => ?_) (fun c_16 => ?_)
                      · skip
                        refine lv_lload hx hb dM_wrong_213 (lv_at hl 1 rfl) ?_
                        refine lv_ldc2 (v := 1024) hx hb hown (hts _ mbM_wrong_5) dM_wrong_215 ?_
                        refine lv_ldiv hx hb dM_wrong_218 (by decide) ?_
                        refine lv_ldc2 (v := 1024) hx hb hown (hts _ mbM_wrong_5) dM_wrong_219 ?_
                        refine lv_lmul hx hb dM_wrong_222 ?_
                        refine lv_lload hx hb dM_wrong_223 (lv_at hl 5 rfl) ?_
                        refine lv_ldc2 (v := 1024) hx hb hown (hts _ mbM_wrong_5) dM_wrong_225 ?_
                        refine lv_lrem hx hb dM_wrong_228 (by decide) ?_
                        refine lv_ladd hx hb dM_wrong_229 ?_
                        refine lv_lstore (lv' := [(5, .long ((((((z ((((((v.toInt64 &&& 4294967295) / 1024) - ((v.toInt64 &&& 4294967295) / 1024) / 8 * 8).toInt32) + 16) + 8).toNatClampNeg).toInt64) &&& 4294967295) / 1024) * 1024) + ((v.toInt64 &&& 4294967295) - (v.toInt64 &&& 4294967295) / 1024 * 1024))), (14, .long 1), (12, .long (((z ((((((v.toInt64 &&& 4294967295) / 1024) - ((v.toInt64 &&& 4294967295) / 1024) / 8 * 8).toInt32) + 16) + 8).toNatClampNeg).toInt64) &&& 4294967295)), (10, .long (((z (((((v.toInt64 &&& 4294967295) / 1024) - ((v.toInt64 &&& 4294967295) / 1024) / 8 * 8).toInt32) + 16).toNatClampNeg).toInt64) &&& 4294967295)), (9, .int (((((v.toInt64 &&& 4294967295) / 1024) - ((v.toInt64 &&& 4294967295) / 1024) / 8 * 8).toInt32) + 16)), (7, .long ((v.toInt64 &&& 4294967295) / 1024)), (4, .int 1), (0, .ref k0), (1, .int v), (2, .int how), (3, .int wd)]) hx hb dM_wrong_230 hl (by decide) rfl (fun ls hl => ?_)
                        refine b_M_wrong hx hb hown hts dC dI k0 yb zb cI y z th a1 a2 a3 a4 a5 a6 fo how ((((((z ((((((v.toInt64 &&& 4294967295) / 1024) - ((v.toInt64 &&& 4294967295) / 1024) / 8 * 8).toInt32) + 16) + 8).toNatClampNeg).toInt64) &&& 4294967295) / 1024) * 1024) + ((v.toInt64 &&& 4294967295) - (v.toInt64 &&& 4294967295) / 1024 * 1024)) hK _ _ ls hP hD hS (lv_sub hl [0, 9, 7] rfl) (fun H locs ls hls hP hD hS => ?_)
                        exact W.iret (v := (s_b232 how ((((((z ((((((v.toInt64 &&& 4294967295) / 1024) - ((v.toInt64 &&& 4294967295) / 1024) / 8 * 8).toInt32) + 16) + 8).toNatClampNeg).toInt64) &&& 4294967295) / 1024) * 1024) + ((v.toInt64 &&& 4294967295) - (v.toInt64 &&& 4294967295) / 1024 * 1024))).1) hx hb hr (fun t ht hW => ⟨⟨(s_b232 how ((((((z ((((((v.toInt64 &&& 4294967295) / 1024) - ((v.toInt64 &&& 4294967295) / 1024) / 8 * 8).toInt32) + 16) + 8).toNatClampNeg).toInt64) &&& 4294967295) / 1024) * 1024) + ((v.toInt64 &&& 4294967295) - (v.toInt64 &&& 4294967295) / 1024 * 1024))).1, ((s_b232 how ((((((z ((((((v.toInt64 &&& 4294967295) / 1024) - ((v.toInt64 &&& 4294967295) / 1024) / 8 * 8).toInt32) + 16) + 8).toNatClampNeg).toInt64) &&& 4294967295) / 1024) * 1024) + ((v.toInt64 &&& 4294967295) - (v.toInt64 &&& 4294967295) / 1024 * 1024))).2), rfl, by simp only [s_M_wrong, if_neg c_1, if_pos c_3, if_neg c_4, if_neg c_7, if_neg c_9, if_pos c_11, if_neg c_12, if_pos c_15, if_neg c_16], by rw [ht]; exact hP, va_K.moved hW.alike hK, hD⟩, hS.F ht⟩) hS.2.2 dM_wrong_309
                      · skip
                        refine lv_iload_n hx hb dM_wrong_203 rfl (lv_at hl 9 rfl) ?_
                        refine lv_if_ne (tgt := 211) hx hb dM_wrong_204 (by decide) (fun c_17 => ?_) (fun c_17 => ?_)
                        · skip
                          refine lv_iconst (v := 3) hx hb dM_wrong_211 (by decide) ?_
                          exact W.iret (v := 3) hx hb hr (fun t ht hW => ⟨⟨3, fo, rfl, by simp only [s_M_wrong, if_neg c_1, if_pos c_3, if_neg c_4, if_neg c_7, if_neg c_9, if_pos c_11, if_neg c_12, if_pos c_15, if_pos c_16], by rw [ht]; exact hP, va_K.moved hW.alike hK, hD⟩, hS.F ht⟩) hS.2.2 dM_wrong_212
                        · exact absurd c_17 c_4
                    · skip
                      refine lv_ldc2 (v := 4) hx hb hown (hts _ mbM_wrong_9) dM_wrong_180 ?_
                      refine lv_goto (tgt := 187) hx hb dM_wrong_183 (by decide) ?_
                      refine lv_lstore (lv' := [(14, .long 4), (12, .long (((z ((((((v.toInt64 &&& 4294967295) / 1024) - ((v.toInt64 &&& 4294967295) / 1024) / 8 * 8).toInt32) + 16) + 8).toNatClampNeg).toInt64) &&& 4294967295)), (10, .long (((z (((((v.toInt64 &&& 4294967295) / 1024) - ((v.toInt64 &&& 4294967295) / 1024) / 8 * 8).toInt32) + 16).toNatClampNeg).toInt64) &&& 4294967295)), (9, .int (((((v.toInt64 &&& 4294967295) / 1024) - ((v.toInt64 &&& 4294967295) / 1024) / 8 * 8).toInt32) + 16)), (7, .long ((v.toInt64 &&& 4294967295) / 1024)), (5, .long (v.toInt64 &&& 4294967295)), (4, .int 1), (0, .ref k0), (1, .int v), (2, .int how), (3, .int wd)]) hx hb dM_wrong_187 hl (by decide) rfl (fun ls hl => ?_)
                      refine lv_lload hx hb dM_wrong_189 (lv_at hl 1 rfl) ?_
                      refine lv_lload hx hb dM_wrong_191 (lv_at hl 0 rfl) ?_
                      refine lv_ldiv hx hb dM_wrong_193 (by decide) ?_
                      refine lv_ldc2 (v := 2) hx hb hown (hts _ mbM_wrong_8) dM_wrong_194 ?_
                      refine lv_lrem hx hb dM_wrong_197 (by decide) ?_
                      refine lv_lconst (v := 0) hx hb dM_wrong_198 (by decide) ?_
                      refine W.lcmp hx hb dM_wrong_199 ?_
                      refine lv_if_ne (tgt := 213) hx hb dM_wrong_200 (by decide) (fun c_18 => ?_) (fun c_18 => ?_)
                      · skip
                        refine lv_lload hx hb dM_wrong_213 (lv_at hl 1 rfl) ?_
                        refine lv_ldc2 (v := 1024) hx hb hown (hts _ mbM_wrong_5) dM_wrong_215 ?_
                        refine lv_ldiv hx hb dM_wrong_218 (by decide) ?_
                        refine lv_ldc2 (v := 1024) hx hb hown (hts _ mbM_wrong_5) dM_wrong_219 ?_
                        refine lv_lmul hx hb dM_wrong_222 ?_
                        refine lv_lload hx hb dM_wrong_223 (lv_at hl 5 rfl) ?_
                        refine lv_ldc2 (v := 1024) hx hb hown (hts _ mbM_wrong_5) dM_wrong_225 ?_
                        refine lv_lrem hx hb dM_wrong_228 (by decide) ?_
                        refine lv_ladd hx hb dM_wrong_229 ?_
                        refine lv_lstore (lv' := [(5, .long ((((((z ((((((v.toInt64 &&& 4294967295) / 1024) - ((v.toInt64 &&& 4294967295) / 1024) / 8 * 8).toInt32) + 16) + 8).toNatClampNeg).toInt64) &&& 4294967295) / 1024) * 1024) + ((v.toInt64 &&& 4294967295) - (v.toInt64 &&& 4294967295) / 1024 * 1024))), (14, .long 4), (12, .long (((z ((((((v.toInt64 &&& 4294967295) / 1024) - ((v.toInt64 &&& 4294967295) / 1024) / 8 * 8).toInt32) + 16) + 8).toNatClampNeg).toInt64) &&& 4294967295)), (10, .long (((z (((((v.toInt64 &&& 4294967295) / 1024) - ((v.toInt64 &&& 4294967295) / 1024) / 8 * 8).toInt32) + 16).toNatClampNeg).toInt64) &&& 4294967295)), (9, .int (((((v.toInt64 &&& 4294967295) / 1024) - ((v.toInt64 &&& 4294967295) / 1024) / 8 * 8).toInt32) + 16)), (7, .long ((v.toInt64 &&& 4294967295) / 1024)), (4, .int 1), (0, .ref k0), (1, .int v), (2, .int how), (3, .int wd)]) hx hb dM_wrong_230 hl (by decide) rfl (fun ls hl => ?_)
                        refine b_M_wrong hx hb hown hts dC dI k0 yb zb cI y z th a1 a2 a3 a4 a5 a6 fo how ((((((z ((((((v.toInt64 &&& 4294967295) / 1024) - ((v.toInt64 &&& 4294967295) / 1024) / 8 * 8).toInt32) + 16) + 8).toNatClampNeg).toInt64) &&& 4294967295) / 1024) * 1024) + ((v.toInt64 &&& 4294967295) - (v.toInt64 &&& 4294967295) / 1024 * 1024)) hK _ _ ls hP hD hS (lv_sub hl [0, 9, 7] rfl) (fun H locs ls hls hP hD hS => ?_)
                        exact W.iret (v := (s_b232 how ((((((z ((((((v.toInt64 &&& 4294967295) / 1024) - ((v.toInt64 &&& 4294967295) / 1024) / 8 * 8).toInt32) + 16) + 8).toNatClampNeg).toInt64) &&& 4294967295) / 1024) * 1024) + ((v.toInt64 &&& 4294967295) - (v.toInt64 &&& 4294967295) / 1024 * 1024))).1) hx hb hr (fun t ht hW => ⟨⟨(s_b232 how ((((((z ((((((v.toInt64 &&& 4294967295) / 1024) - ((v.toInt64 &&& 4294967295) / 1024) / 8 * 8).toInt32) + 16) + 8).toNatClampNeg).toInt64) &&& 4294967295) / 1024) * 1024) + ((v.toInt64 &&& 4294967295) - (v.toInt64 &&& 4294967295) / 1024 * 1024))).1, ((s_b232 how ((((((z ((((((v.toInt64 &&& 4294967295) / 1024) - ((v.toInt64 &&& 4294967295) / 1024) / 8 * 8).toInt32) + 16) + 8).toNatClampNeg).toInt64) &&& 4294967295) / 1024) * 1024) + ((v.toInt64 &&& 4294967295) - (v.toInt64 &&& 4294967295) / 1024 * 1024))).2), rfl, by simp only [s_M_wrong, if_neg c_1, if_pos c_3, if_neg c_4, if_neg c_7, if_neg c_9, if_pos c_11, if_neg c_12, if_neg c_15, if_neg c_18], by rw [ht]; exact hP, va_K.moved hW.alike hK, hD⟩, hS.F ht⟩) hS.2.2 dM_wrong_309
                      · skip
                        refine lv_iload_n hx hb dM_wrong_203 rfl (lv_at hl 9 rfl) ?_
                        refine lv_if_ne (tgt := 211) hx hb dM_wrong_204 (by decide) (fun c_19 => ?_) (fun c_19 => ?_)
                        · skip
                          refine lv_iconst (v := 3) hx hb dM_wrong_211 (by decide) ?_
                          exact W.iret (v := 3) hx hb hr (fun t ht hW => ⟨⟨3, fo, rfl, by simp only [s_M_wrong, if_neg c_1, if_pos c_3, if_neg c_4, if_neg c_7, if_neg c_9, if_pos c_11, if_neg c_12, if_neg c_15, if_pos c_18], by rw [ht]; exact hP, va_K.moved hW.alike hK, hD⟩, hS.F ht⟩) hS.2.2 dM_wrong_212
                        · exact absurd c_19 c_4
                  · skip
                    refine lv_aload_n hx hb dM_wrong_152 rfl (lv_at hl 6 rfl) ?_
                    refine lv_iconst (v := 1) hx hb dM_wrong_153 (by decide) ?_
                    have hPc := hP.sub (ws' := [(k0, .inr (2, [.int th, .ref yb, .ref zb, .int a1, .int a2, .int a3, .int a4, .int a5, .int a6, .int fo])), (yb, .inl (cI, 65536, .inl y)), (zb, .inl (cI, 33, .inl z))]) [0, 1, 2] rfl
                    have hKc := hK.sub (tys' := [(cI, .int)]) [0] rfl
                    refine vp_callSi (va_Run.run (va_runV (As := [.int 1]) (rest := []) ⟨hx, hb, hml, hown, hts⟩ (c_M_mode l dC dI k0 yb zb cI y z th a1 a2 a3 a4 a5 a6 fo 1 (by decide)) (cwV 1 hts gM_wrong_M_mode rfl rfl rfl (by decide +kernel) ⟨Nat.le_of_ble_eq_true rfl, Nat.le_of_ble_eq_true rfl⟩) ⟨fun a U g mk q => by obtain ⟨q0, qP, qK⟩ := q; exact ⟨q0, qP, va_K.moved (u := U) (U := U.calling g mk a) (Vm.Alike.refl U.vm) qK⟩, va_recv hKc hPc (ci := 2) (q0 := 0) rfl rfl, fun U hU hW => ⟨rfl, by rw [hU]; exact hPc, va_K.moved hW.alike hKc⟩⟩ rfl rfl hl.1 rfl (lv_room (Nat.le_of_ble_eq_true rfl)) dM_wrong_154 ⟨Nat.le_of_ble_eq_true rfl, Nat.le_of_ble_eq_true rfl⟩)) (fun r_20 hw_21 => ?_)
                    subst hw_21
                    refine lv_if_eq (tgt := 166) hx hb dM_wrong_157 (by decide) (fun c_22 => ?_) (fun c_22 => ?_)
                    · skip
                      refine lv_ldc2 (v := 2) hx hb hown (hts _ mbM_wrong_8) dM_wrong_166 ?_
                      refine lv_goto (tgt := 187) hx hb dM_wrong_169 (by decide) ?_
                      refine lv_lstore (lv' := [(14, .long 2), (12, .long (((z ((((((v.toInt64 &&& 4294967295) / 1024) - ((v.toInt64 &&& 4294967295) / 1024) / 8 * 8).toInt32) + 16) + 8).toNatClampNeg).toInt64) &&& 4294967295)), (10, .long (((z (((((v.toInt64 &&& 4294967295) / 1024) - ((v.toInt64 &&& 4294967295) / 1024) / 8 * 8).toInt32) + 16).toNatClampNeg).toInt64) &&& 4294967295)), (9, .int (((((v.toInt64 &&& 4294967295) / 1024) - ((v.toInt64 &&& 4294967295) / 1024) / 8 * 8).toInt32) + 16)), (7, .long ((v.toInt64 &&& 4294967295) / 1024)), (5, .long (v.toInt64 &&& 4294967295)), (4, .int 1), (0, .ref k0), (1, .int v), (2, .int how), (3, .int wd)]) hx hb dM_wrong_187 hl (by decide) rfl (fun ls hl => ?_)
                      refine lv_lload hx hb dM_wrong_189 (lv_at hl 1 rfl) ?_
                      refine lv_lload hx hb dM_wrong_191 (lv_at hl 0 rfl) ?_
                      refine lv_ldiv hx hb dM_wrong_193 (by decide) ?_
                      refine lv_ldc2 (v := 2) hx hb hown (hts _ mbM_wrong_8) dM_wrong_194 ?_
                      refine lv_lrem hx hb dM_wrong_197 (by decide) ?_
                      refine lv_lconst (v := 0) hx hb dM_wrong_198 (by decide) ?_
                      refine W.lcmp hx hb dM_wrong_199 ?_
                      refine lv_if_ne (tgt := 213) hx hb dM_wrong_200 (by decide) (fun c_23 => ?_) (fun c_23 => ?_)
                      · skip
                        refine lv_lload hx hb dM_wrong_213 (lv_at hl 1 rfl) ?_
                        refine lv_ldc2 (v := 1024) hx hb hown (hts _ mbM_wrong_5) dM_wrong_215 ?_
                        refine lv_ldiv hx hb dM_wrong_218 (by decide) ?_
                        refine lv_ldc2 (v := 1024) hx hb hown (hts _ mbM_wrong_5) dM_wrong_219 ?_
                        refine lv_lmul hx hb dM_wrong_222 ?_
                        refine lv_lload hx hb dM_wrong_223 (lv_at hl 5 rfl) ?_
                        refine lv_ldc2 (v := 1024) hx hb hown (hts _ mbM_wrong_5) dM_wrong_225 ?_
                        refine lv_lrem hx hb dM_wrong_228 (by decide) ?_
                        refine lv_ladd hx hb dM_wrong_229 ?_
                        refine lv_lstore (lv' := [(5, .long ((((((z ((((((v.toInt64 &&& 4294967295) / 1024) - ((v.toInt64 &&& 4294967295) / 1024) / 8 * 8).toInt32) + 16) + 8).toNatClampNeg).toInt64) &&& 4294967295) / 1024) * 1024) + ((v.toInt64 &&& 4294967295) - (v.toInt64 &&& 4294967295) / 1024 * 1024))), (14, .long 2), (12, .long (((z ((((((v.toInt64 &&& 4294967295) / 1024) - ((v.toInt64 &&& 4294967295) / 1024) / 8 * 8).toInt32) + 16) + 8).toNatClampNeg).toInt64) &&& 4294967295)), (10, .long (((z (((((v.toInt64 &&& 4294967295) / 1024) - ((v.toInt64 &&& 4294967295) / 1024) / 8 * 8).toInt32) + 16).toNatClampNeg).toInt64) &&& 4294967295)), (9, .int (((((v.toInt64 &&& 4294967295) / 1024) - ((v.toInt64 &&& 4294967295) / 1024) / 8 * 8).toInt32) + 16)), (7, .long ((v.toInt64 &&& 4294967295) / 1024)), (4, .int 1), (0, .ref k0), (1, .int v), (2, .int how), (3, .int wd)]) hx hb dM_wrong_230 hl (by decide) rfl (fun ls hl => ?_)
                        refine b_M_wrong hx hb hown hts dC dI k0 yb zb cI y z th a1 a2 a3 a4 a5 a6 fo how ((((((z ((((((v.toInt64 &&& 4294967295) / 1024) - ((v.toInt64 &&& 4294967295) / 1024) / 8 * 8).toInt32) + 16) + 8).toNatClampNeg).toInt64) &&& 4294967295) / 1024) * 1024) + ((v.toInt64 &&& 4294967295) - (v.toInt64 &&& 4294967295) / 1024 * 1024)) hK _ _ ls hP hD hS (lv_sub hl [0, 9, 7] rfl) (fun H locs ls hls hP hD hS => ?_)
                        exact W.iret (v := (s_b232 how ((((((z ((((((v.toInt64 &&& 4294967295) / 1024) - ((v.toInt64 &&& 4294967295) / 1024) / 8 * 8).toInt32) + 16) + 8).toNatClampNeg).toInt64) &&& 4294967295) / 1024) * 1024) + ((v.toInt64 &&& 4294967295) - (v.toInt64 &&& 4294967295) / 1024 * 1024))).1) hx hb hr (fun t ht hW => ⟨⟨(s_b232 how ((((((z ((((((v.toInt64 &&& 4294967295) / 1024) - ((v.toInt64 &&& 4294967295) / 1024) / 8 * 8).toInt32) + 16) + 8).toNatClampNeg).toInt64) &&& 4294967295) / 1024) * 1024) + ((v.toInt64 &&& 4294967295) - (v.toInt64 &&& 4294967295) / 1024 * 1024))).1, ((s_b232 how ((((((z ((((((v.toInt64 &&& 4294967295) / 1024) - ((v.toInt64 &&& 4294967295) / 1024) / 8 * 8).toInt32) + 16) + 8).toNatClampNeg).toInt64) &&& 4294967295) / 1024) * 1024) + ((v.toInt64 &&& 4294967295) - (v.toInt64 &&& 4294967295) / 1024 * 1024))).2), rfl, by simp only [s_M_wrong, if_neg c_1, if_pos c_3, if_neg c_4, if_neg c_7, if_neg c_9, if_pos c_11, if_pos c_12, if_pos c_22, if_neg c_23], by rw [ht]; exact hP, va_K.moved hW.alike hK, hD⟩, hS.F ht⟩) hS.2.2 dM_wrong_309
                      · skip
                        refine lv_iload_n hx hb dM_wrong_203 rfl (lv_at hl 9 rfl) ?_
                        refine lv_if_ne (tgt := 211) hx hb dM_wrong_204 (by decide) (fun c_24 => ?_) (fun c_24 => ?_)
                        · skip
                          refine lv_iconst (v := 3) hx hb dM_wrong_211 (by decide) ?_
                          exact W.iret (v := 3) hx hb hr (fun t ht hW => ⟨⟨3, fo, rfl, by simp only [s_M_wrong, if_neg c_1, if_pos c_3, if_neg c_4, if_neg c_7, if_neg c_9, if_pos c_11, if_pos c_12, if_pos c_22, if_pos c_23], by rw [ht]; exact hP, va_K.moved hW.alike hK, hD⟩, hS.F ht⟩) hS.2.2 dM_wrong_212
                        · exact absurd c_24 c_4
                    · skip
                      refine lv_ldc2 (v := 8) hx hb hown (hts _ mbM_wrong_6) dM_wrong_160 ?_
                      refine lv_goto (tgt := 187) hx hb dM_wrong_163 (by decide) ?_
                      refine lv_lstore (lv' := [(14, .long 8), (12, .long (((z ((((((v.toInt64 &&& 4294967295) / 1024) - ((v.toInt64 &&& 4294967295) / 1024) / 8 * 8).toInt32) + 16) + 8).toNatClampNeg).toInt64) &&& 4294967295)), (10, .long (((z (((((v.toInt64 &&& 4294967295) / 1024) - ((v.toInt64 &&& 4294967295) / 1024) / 8 * 8).toInt32) + 16).toNatClampNeg).toInt64) &&& 4294967295)), (9, .int (((((v.toInt64 &&& 4294967295) / 1024) - ((v.toInt64 &&& 4294967295) / 1024) / 8 * 8).toInt32) + 16)), (7, .long ((v.toInt64 &&& 4294967295) / 1024)), (5, .long (v.toInt64 &&& 4294967295)), (4, .int 1), (0, .ref k0), (1, .int v), (2, .int how), (3, .int wd)]) hx hb dM_wrong_187 hl (by decide) rfl (fun ls hl => ?_)
                      refine lv_lload hx hb dM_wrong_189 (lv_at hl 1 rfl) ?_
                      refine lv_lload hx hb dM_wrong_191 (lv_at hl 0 rfl) ?_
                      refine lv_ldiv hx hb dM_wrong_193 (by decide) ?_
                      refine lv_ldc2 (v := 2) hx hb hown (hts _ mbM_wrong_8) dM_wrong_194 ?_
                      refine lv_lrem hx hb dM_wrong_197 (by decide) ?_
                      refine lv_lconst (v := 0) hx hb dM_wrong_198 (by decide) ?_
                      refine W.lcmp hx hb dM_wrong_199 ?_
                      refine lv_if_ne (tgt := 213) hx hb dM_wrong_200 (by decide) (fun c_25 => ?_) (fun c_25 => ?_)
                      · skip
                        refine lv_lload hx hb dM_wrong_213 (lv_at hl 1 rfl) ?_
                        refine lv_ldc2 (v := 1024) hx hb hown (hts _ mbM_wrong_5) dM_wrong_215 ?_
                        refine lv_ldiv hx hb dM_wrong_218 (by decide) ?_
                        refine lv_ldc2 (v := 1024) hx hb hown (hts _ mbM_wrong_5) dM_wrong_219 ?_
                        refine lv_lmul hx hb dM_wrong_222 ?_
                        refine lv_lload hx hb dM_wrong_223 (lv_at hl 5 rfl) ?_
                        refine lv_ldc2 (v := 1024) hx hb hown (hts _ mbM_wrong_5) dM_wrong_225 ?_
                        refine lv_lrem hx hb dM_wrong_228 (by decide) ?_
                        refine lv_ladd hx hb dM_wrong_229 ?_
                        refine lv_lstore (lv' := [(5, .long ((((((z ((((((v.toInt64 &&& 4294967295) / 1024) - ((v.toInt64 &&& 4294967295) / 1024) / 8 * 8).toInt32) + 16) + 8).toNatClampNeg).toInt64) &&& 4294967295) / 1024) * 1024) + ((v.toInt64 &&& 4294967295) - (v.toInt64 &&& 4294967295) / 1024 * 1024))), (14, .long 8), (12, .long (((z ((((((v.toInt64 &&& 4294967295) / 1024) - ((v.toInt64 &&& 4294967295) / 1024) / 8 * 8).toInt32) + 16) + 8).toNatClampNeg).toInt64) &&& 4294967295)), (10, .long (((z (((((v.toInt64 &&& 4294967295) / 1024) - ((v.toInt64 &&& 4294967295) / 1024) / 8 * 8).toInt32) + 16).toNatClampNeg).toInt64) &&& 4294967295)), (9, .int (((((v.toInt64 &&& 4294967295) / 1024) - ((v.toInt64 &&& 4294967295) / 1024) / 8 * 8).toInt32) + 16)), (7, .long ((v.toInt64 &&& 4294967295) / 1024)), (4, .int 1), (0, .ref k0), (1, .int v), (2, .int how), (3, .int wd)]) hx hb dM_wrong_230 hl (by decide) rfl (fun ls hl => ?_)
                        refine b_M_wrong hx hb hown hts dC dI k0 yb zb cI y z th a1 a2 a3 a4 a5 a6 fo how ((((((z ((((((v.toInt64 &&& 4294967295) / 1024) - ((v.toInt64 &&& 4294967295) / 1024) / 8 * 8).toInt32) + 16) + 8).toNatClampNeg).toInt64) &&& 4294967295) / 1024) * 1024) + ((v.toInt64 &&& 4294967295) - (v.toInt64 &&& 4294967295) / 1024 * 1024)) hK _ _ ls hP hD hS (lv_sub hl [0, 9, 7] rfl) (fun H locs ls hls hP hD hS => ?_)
                        exact W.iret (v := (s_b232 how ((((((z ((((((v.toInt64 &&& 4294967295) / 1024) - ((v.toInt64 &&& 4294967295) / 1024) / 8 * 8).toInt32) + 16) + 8).toNatClampNeg).toInt64) &&& 4294967295) / 1024) * 1024) + ((v.toInt64 &&& 4294967295) - (v.toInt64 &&& 4294967295) / 1024 * 1024))).1) hx hb hr (fun t ht hW => ⟨⟨(s_b232 how ((((((z ((((((v.toInt64 &&& 4294967295) / 1024) - ((v.toInt64 &&& 4294967295) / 1024) / 8 * 8).toInt32) + 16) + 8).toNatClampNeg).toInt64) &&& 4294967295) / 1024) * 1024) + ((v.toInt64 &&& 4294967295) - (v.toInt64 &&& 4294967295) / 1024 * 1024))).1, ((s_b232 how ((((((z ((((((v.toInt64 &&& 4294967295) / 1024) - ((v.toInt64 &&& 4294967295) / 1024) / 8 * 8).toInt32) + 16) + 8).toNatClampNeg).toInt64) &&& 4294967295) / 1024) * 1024) + ((v.toInt64 &&& 4294967295) - (v.toInt64 &&& 4294967295) / 1024 * 1024))).2), rfl, by simp only [s_M_wrong, if_neg c_1, if_pos c_3, if_neg c_4, if_neg c_7, if_neg c_9, if_pos c_11, if_pos c_12, if_neg c_22, if_neg c_25], by rw [ht]; exact hP, va_K.moved hW.alike hK, hD⟩, hS.F ht⟩) hS.2.2 dM_wrong_309
                      · skip
                        refine lv_iload_n hx hb dM_wrong_203 rfl (lv_at hl 9 rfl) ?_
                        refine lv_if_ne (tgt := 211) hx hb dM_wrong_204 (by decide) (fun c_26 => ?_) (fun c_26 => ?_)
                        · skip
                          refine lv_iconst (v := 3) hx hb dM_wrong_211 (by decide) ?_
                          exact W.iret (v := 3) hx hb hr (fun t ht hW => ⟨⟨3, fo, rfl, by simp only [s_M_wrong, if_neg c_1, if_pos c_3, if_neg c_4, if_neg c_7, if_neg c_9, if_pos c_11, if_pos c_12, if_neg c_22, if_pos c_25], by rw [ht]; exact hP, va_K.moved hW.alike hK, hD⟩, hS.F ht⟩) hS.2.2 dM_wrong_212
                        · exact absurd c_26 c_4
                · skip
                  refine lv_iload_n hx hb dM_wrong_135 rfl (lv_at hl 8 rfl) ?_
                  refine lv_if_ne (tgt := 144) hx hb dM_wrong_136 (by decide) (fun c_27 => ?_) (fun c_27 => ?_)
                  · skip
                    refine lv_bipush (v := 9) hx hb dM_wrong_144 (by decide) ?_
                    exact W.iret (v := 9) hx hb hr (fun t ht hW => ⟨⟨9, fo, rfl, by simp only [s_M_wrong, if_neg c_1, if_pos c_3, if_neg c_4, if_neg c_7, if_neg c_9, if_neg c_11], by rw [ht]; exact hP, va_K.moved hW.alike hK, hD⟩, hS.F ht⟩) hS.2.2 dM_wrong_146
                  · exact absurd c_27 c_4
            · exact absurd c_8 c_4
        · skip
          refine lv_iconst (v := 2) hx hb dM_wrong_42 (by decide) ?_
          refine lv_goto (tgt := 47) hx hb dM_wrong_43 (by decide) ?_
          have hPc := hP.sub (ws' := [(k0, .inr (2, [.int th, .ref yb, .ref zb, .int a1, .int a2, .int a3, .int a4, .int a5, .int a6, .int fo])), (yb, .inl (cI, 65536, .inl y)), (zb, .inl (cI, 33, .inl z))]) [0, 1, 2] rfl
          have hKc := hK.sub (tys' := [(cI, .int)]) [0] rfl
          refine vp_callSi (va_Run.run (va_runV (As := [.int 2]) (rest := []) ⟨hx, hb, hml, hown, hts⟩ (c_M_mode l dC dI k0 yb zb cI y z th a1 a2 a3 a4 a5 a6 fo 2 (by decide)) (cwV 1 hts gM_wrong_M_mode rfl rfl rfl (by decide +kernel) ⟨Nat.le_of_ble_eq_true rfl, Nat.le_of_ble_eq_true rfl⟩) ⟨fun a U g mk q => by obtain ⟨q0, qP, qK⟩ := q; exact ⟨q0, qP, va_K.moved (u := U) (U := U.calling g mk a) (Vm.Alike.refl U.vm) qK⟩, va_recv hKc hPc (ci := 2) (q0 := 0) rfl rfl, fun U hU hW => ⟨rfl, by rw [hU]; exact hPc, va_K.moved hW.alike hKc⟩⟩ rfl rfl hl.1 rfl (lv_room (Nat.le_of_ble_eq_true rfl)) dM_wrong_47 ⟨Nat.le_of_ble_eq_true rfl, Nat.le_of_ble_eq_true rfl⟩)) (fun r_28 hw_29 => ?_)
          subst hw_29
          refine lv_if_eq (tgt := 232) hx hb dM_wrong_50 (by decide) (fun c_30 => ?_) (fun c_30 => ?_)
          · skip
            refine b_M_wrong hx hb hown hts dC dI k0 yb zb cI y z th a1 a2 a3 a4 a5 a6 fo how (v.toInt64 &&& 4294967295) hK _ _ ls hP hD hS (lv_sub hl [0, 4, 2] rfl) (fun H locs ls hls hP hD hS => ?_)
            exact W.iret (v := (s_b232 how (v.toInt64 &&& 4294967295)).1) hx hb hr (fun t ht hW => ⟨⟨(s_b232 how (v.toInt64 &&& 4294967295)).1, ((s_b232 how (v.toInt64 &&& 4294967295)).2), rfl, by simp only [s_M_wrong, if_neg c_1, if_pos c_3, if_pos c_4, if_pos c_30], by rw [ht]; exact hP, va_K.moved hW.alike hK, hD⟩, hS.F ht⟩) hS.2.2 dM_wrong_309
          · skip
            refine lv_lload hx hb dM_wrong_53 (lv_at hl 0 rfl) ?_
            refine lv_ldc2 (v := 1024) hx hb hown (hts _ mbM_wrong_5) dM_wrong_55 ?_
            refine lv_ldiv hx hb dM_wrong_58 (by decide) ?_
            refine lv_lstore (lv' := [(7, .long ((v.toInt64 &&& 4294967295) / 1024)), (5, .long (v.toInt64 &&& 4294967295)), (4, .int 1), (0, .ref k0), (1, .int v), (2, .int how), (3, .int wd)]) hx hb dM_wrong_59 hl (by decide) rfl (fun ls hl => ?_)
            refine lv_lload hx hb dM_wrong_61 (lv_at hl 0 rfl) ?_
            refine lv_ldc2 (v := 8) hx hb hown (hts _ mbM_wrong_6) dM_wrong_63 ?_
            refine lv_lrem hx hb dM_wrong_66 (by decide) ?_
            refine lv_l2i (v := (((v.toInt64 &&& 4294967295) / 1024) - ((v.toInt64 &&& 4294967295) / 1024) / 8 * 8).toInt32) hx hb dM_wrong_67 rfl ?_
            refine lv_iload_n hx hb dM_wrong_68 rfl (lv_at hl 5 rfl) ?_
            refine lv_if_ne (tgt := 76) hx hb dM_wrong_69 (by decide) (fun c_31 => ?_) (fun c_31 => ?_)
            · exact absurd c_4 c_31
            · skip
              refine lv_iconst (v := 0) hx hb dM_wrong_72 (by decide) ?_
              refine lv_goto (tgt := 78) hx hb dM_wrong_73 (by decide) ?_
              refine lv_iadd hx hb dM_wrong_78 ?_
              refine lv_istore (lv' := [(9, .int (((((v.toInt64 &&& 4294967295) / 1024) - ((v.toInt64 &&& 4294967295) / 1024) / 8 * 8).toInt32) + 0)), (7, .long ((v.toInt64 &&& 4294967295) / 1024)), (5, .long (v.toInt64 &&& 4294967295)), (4, .int 1), (0, .ref k0), (1, .int v), (2, .int how), (3, .int wd)]) hx hb dM_wrong_79 hl (by decide) rfl (fun ls hl => ?_)
              refine lv_aload_n hx hb dM_wrong_81 rfl (lv_at hl 4 rfl) ?_
              refine va_get (D := (dC, dI)) (ci := 2) (v := .ref zb) (C := RX2) (T := TX2) (N := 10) hx hb hts miM_wrong_X2 hown hK hP 0 rfl rfl 2 (by decide) (hts _ mbM_wrong_7) (fun _ h9 => h9) rfl dM_wrong_82 ?_
              refine lv_iload hx hb dM_wrong_85 (lv_at hl 0 rfl) ?_
              refine va_iald hx hb hK hP 2 0 rfl rfl (in_w v 0 (by decide) _ rfl) dM_wrong_87 ?_
              refine lv_i2l (v := (z (((((v.toInt64 &&& 4294967295) / 1024) - ((v.toInt64 &&& 4294967295) / 1024) / 8 * 8).toInt32) + 0).toNatClampNeg).toInt64) hx hb dM_wrong_88 rfl ?_
              refine lv_ldc2 (v := 4294967295) hx hb hown (hts _ mbM_wrong_4) dM_wrong_89 ?_
              refine lv_land hx hb dM_wrong_92 ?_
              refine lv_lstore (lv' := [(10, .long (((z (((((v.toInt64 &&& 4294967295) / 1024) - ((v.toInt64 &&& 4294967295) / 1024) / 8 * 8).toInt32) + 0).toNatClampNeg).toInt64) &&& 4294967295)), (9, .int (((((v.toInt64 &&& 4294967295) / 1024) - ((v.toInt64 &&& 4294967295) / 1024) / 8 * 8).toInt32) + 0)), (7, .long ((v.toInt64 &&& 4294967295) / 1024)), (5, .long (v.toInt64 &&& 4294967295)), (4, .int 1), (0, .ref k0), (1, .int v), (2, .int how), (3, .int wd)]) hx hb dM_wrong_93 hl (by decide) rfl (fun ls hl => ?_)
              refine lv_aload_n hx hb dM_wrong_95 rfl (lv_at hl 5 rfl) ?_
              refine va_get (D := (dC, dI)) (ci := 2) (v := .ref zb) (C := RX2) (T := TX2) (N := 10) hx hb hts miM_wrong_X2 hown hK hP 0 rfl rfl 2 (by decide) (hts _ mbM_wrong_7) (fun _ h9 => h9) rfl dM_wrong_96 ?_
              refine lv_iload hx hb dM_wrong_99 (lv_at hl 1 rfl) ?_
              refine lv_bipush (v := 8) hx hb dM_wrong_101 (by decide) ?_
              refine lv_iadd hx hb dM_wrong_103 ?_
              refine va_iald hx hb hK hP 2 0 rfl rfl (in_w8 v 0 (by decide) _ rfl) dM_wrong_104 ?_
              refine lv_i2l (v := (z ((((((v.toInt64 &&& 4294967295) / 1024) - ((v.toInt64 &&& 4294967295) / 1024) / 8 * 8).toInt32) + 0) + 8).toNatClampNeg).toInt64) hx hb dM_wrong_105 rfl ?_
              refine lv_ldc2 (v := 4294967295) hx hb hown (hts _ mbM_wrong_4) dM_wrong_106 ?_
              refine lv_land hx hb dM_wrong_109 ?_
              refine lv_lstore (lv' := [(12, .long (((z ((((((v.toInt64 &&& 4294967295) / 1024) - ((v.toInt64 &&& 4294967295) / 1024) / 8 * 8).toInt32) + 0) + 8).toNatClampNeg).toInt64) &&& 4294967295)), (10, .long (((z (((((v.toInt64 &&& 4294967295) / 1024) - ((v.toInt64 &&& 4294967295) / 1024) / 8 * 8).toInt32) + 0).toNatClampNeg).toInt64) &&& 4294967295)), (9, .int (((((v.toInt64 &&& 4294967295) / 1024) - ((v.toInt64 &&& 4294967295) / 1024) / 8 * 8).toInt32) + 0)), (7, .long ((v.toInt64 &&& 4294967295) / 1024)), (5, .long (v.toInt64 &&& 4294967295)), (4, .int 1), (0, .ref k0), (1, .int v), (2, .int how), (3, .int wd)]) hx hb dM_wrong_110 hl (by decide) rfl (fun ls hl => ?_)
              refine lv_lload hx hb dM_wrong_112 (lv_at hl 1 rfl) ?_
              refine lv_ldc2 (v := 2) hx hb hown (hts _ mbM_wrong_8) dM_wrong_114 ?_
              refine lv_lrem hx hb dM_wrong_117 (by decide) ?_
              refine lv_lconst (v := 0) hx hb dM_wrong_118 (by decide) ?_
              refine W.lcmp hx hb dM_wrong_119 ?_
              refine lv_if_eq (tgt := 135) hx hb dM_wrong_120 (by decide) (fun c_32 => ?_) (fun c_32 => ?_)
              · skip
                refine lv_iload_n hx hb dM_wrong_135 rfl (lv_at hl 8 rfl) ?_
                refine lv_if_ne (tgt := 144) hx hb dM_wrong_136 (by decide) (fun c_33 => ?_) (fun c_33 => ?_)
                · exact absurd c_4 c_33
                · skip
                  refine lv_bipush (v := 10) hx hb dM_wrong_139 (by decide) ?_
                  refine lv_goto (tgt := 146) hx hb dM_wrong_141 (by decide) ?_
                  exact W.iret (v := 10) hx hb hr (fun t ht hW => ⟨⟨10, fo, rfl, by simp only [s_M_wrong, if_neg c_1, if_pos c_3, if_pos c_4, if_neg c_30, if_pos c_32], by rw [ht]; exact hP, va_K.moved hW.alike hK, hD⟩, hS.F ht⟩) hS.2.2 dM_wrong_146
              · skip
                refine lv_lload hx hb dM_wrong_123 (lv_at hl 1 rfl) ?_
                refine lv_ldc2 (v := 1024) hx hb hown (hts _ mbM_wrong_5) dM_wrong_125 ?_
                refine lv_ldiv hx hb dM_wrong_128 (by decide) ?_
                refine lv_lload hx hb dM_wrong_129 (lv_at hl 3 rfl) ?_
                refine W.lcmp hx hb dM_wrong_131 ?_
                refine lv_if_eq (tgt := 147) hx hb dM_wrong_132 (by decide) (fun c_34 => ?_) (fun c_34 => ?_)
                · skip
                  refine lv_iload_n hx hb dM_wrong_147 rfl (lv_at hl 8 rfl) ?_
                  refine lv_iconst (v := 2) hx hb dM_wrong_148 (by decide) ?_
                  refine lv_icmp_ne (tgt := 172) hx hb dM_wrong_149 (by decide) (fun c_35 => ?_) (fun c_35 => ?_)
                  · skip
                    refine lv_aload_n hx hb dM_wrong_172 rfl (lv_at hl 6 rfl) ?_
                    refine lv_iconst (v := 1) hx hb dM_wrong_173 (by decide) ?_
                    have hPc := hP.sub (ws' := [(k0, .inr (2, [.int th, .ref yb, .ref zb, .int a1, .int a2, .int a3, .int a4, .int a5, .int a6, .int fo])), (yb, .inl (cI, 65536, .inl y)), (zb, .inl (cI, 33, .inl z))]) [0, 1, 2] rfl
                    have hKc := hK.sub (tys' := [(cI, .int)]) [0] rfl
                    refine vp_callSi (va_Run.run (va_runV (As := [.int 1]) (rest := []) ⟨hx, hb, hml, hown, hts⟩ (c_M_mode l dC dI k0 yb zb cI y z th a1 a2 a3 a4 a5 a6 fo 1 (by decide)) (cwV 1 hts gM_wrong_M_mode rfl rfl rfl (by decide +kernel) ⟨Nat.le_of_ble_eq_true rfl, Nat.le_of_ble_eq_true rfl⟩) ⟨fun a U g mk q => by obtain ⟨q0, qP, qK⟩ := q; exact ⟨q0, qP, va_K.moved (u := U) (U := U.calling g mk a) (Vm.Alike.refl U.vm) qK⟩, va_recv hKc hPc (ci := 2) (q0 := 0) rfl rfl, fun U hU hW => ⟨rfl, by rw [hU]; exact hPc, va_K.moved hW.alike hKc⟩⟩ rfl rfl hl.1 rfl (lv_room (Nat.le_of_ble_eq_true rfl)) dM_wrong_174 ⟨Nat.le_of_ble_eq_true rfl, Nat.le_of_ble_eq_true rfl⟩)) (fun r_36 hw_37 => ?_)
                    subst hw_37
                    refine lv_if_eq (tgt := 186) hx hb dM_wrong_177 (by decide) (fun c_38 => ?_) (fun c_38 => ?_)
                    · skip
                      refine lv_lconst (v := 1) hx hb dM_wrong_186 (by decide) ?_
                      refine lv_lstore (lv' := [(14, .long 1), (12, .long (((z ((((((v.toInt64 &&& 4294967295) / 1024) - ((v.toInt64 &&& 4294967295) / 1024) / 8 * 8).toInt32) + 0) + 8).toNatClampNeg).toInt64) &&& 4294967295)), (10, .long (((z (((((v.toInt64 &&& 4294967295) / 1024) - ((v.toInt64 &&& 4294967295) / 1024) / 8 * 8).toInt32) + 0).toNatClampNeg).toInt64) &&& 4294967295)), (9, .int (((((v.toInt64 &&& 4294967295) / 1024) - ((v.toInt64 &&& 4294967295) / 1024) / 8 * 8).toInt32) + 0)), (7, .long ((v.toInt64 &&& 4294967295) / 1024)), (5, .long (v.toInt64 &&& 4294967295)), (4, .int 1), (0, .ref k0), (1, .int v), (2, .int how), (3, .int wd)]) hx hb dM_wrong_187 hl (by decide) rfl (fun ls hl => ?_)
                      refine lv_lload hx hb dM_wrong_189 (lv_at hl 1 rfl) ?_
                      refine lv_lload hx hb dM_wrong_191 (lv_at hl 0 rfl) ?_
                      refine lv_ldiv hx hb dM_wrong_193 (by decide) ?_
                      refine lv_ldc2 (v := 2) hx hb hown (hts _ mbM_wrong_8) dM_wrong_194 ?_
                      refine lv_lrem hx hb dM_wrong_197 (by decide) ?_
                      refine lv_lconst (v := 0) hx hb dM_wrong_198 (by decide) ?_
                      refine W.lcmp hx hb dM_wrong_199 ?_
                      refine lv_if_ne (tgt := 213) hx hb dM_wrong_200 (by decide) (fun c_39 => ?_) (fun c_39 => ?_)
                      · skip
                        refine lv_lload hx hb dM_wrong_213 (lv_at hl 1 rfl) ?_
                        refine lv_ldc2 (v := 1024) hx hb hown (hts _ mbM_wrong_5) dM_wrong_215 ?_
                        refine lv_ldiv hx hb dM_wrong_218 (by decide) ?_
                        refine lv_ldc2 (v := 1024) hx hb hown (hts _ mbM_wrong_5) dM_wrong_219 ?_
                        refine lv_lmul hx hb dM_wrong_222 ?_
                        refine lv_lload hx hb dM_wrong_223 (lv_at hl 5 rfl) ?_
                        refine lv_ldc2 (v := 1024) hx hb hown (hts _ mbM_wrong_5) dM_wrong_225 ?_
                        refine lv_lrem hx hb dM_wrong_228 (by decide) ?_
                        refine lv_ladd hx hb dM_wrong_229 ?_
                        refine lv_lstore (lv' := [(5, .long ((((((z ((((((v.toInt64 &&& 4294967295) / 1024) - ((v.toInt64 &&& 4294967295) / 1024) / 8 * 8).toInt32) + 0) + 8).toNatClampNeg).toInt64) &&& 4294967295) / 1024) * 1024) + ((v.toInt64 &&& 4294967295) - (v.toInt64 &&& 4294967295) / 1024 * 1024))), (14, .long 1), (12, .long (((z ((((((v.toInt64 &&& 4294967295) / 1024) - ((v.toInt64 &&& 4294967295) / 1024) / 8 * 8).toInt32) + 0) + 8).toNatClampNeg).toInt64) &&& 4294967295)), (10, .long (((z (((((v.toInt64 &&& 4294967295) / 1024) - ((v.toInt64 &&& 4294967295) / 1024) / 8 * 8).toInt32) + 0).toNatClampNeg).toInt64) &&& 4294967295)), (9, .int (((((v.toInt64 &&& 4294967295) / 1024) - ((v.toInt64 &&& 4294967295) / 1024) / 8 * 8).toInt32) + 0)), (7, .long ((v.toInt64 &&& 4294967295) / 1024)), (4, .int 1), (0, .ref k0), (1, .int v), (2, .int how), (3, .int wd)]) hx hb dM_wrong_230 hl (by decide) rfl (fun ls hl => ?_)
                        refine b_M_wrong hx hb hown hts dC dI k0 yb zb cI y z th a1 a2 a3 a4 a5 a6 fo how ((((((z ((((((v.toInt64 &&& 4294967295) / 1024) - ((v.toInt64 &&& 4294967295) / 1024) / 8 * 8).toInt32) + 0) + 8).toNatClampNeg).toInt64) &&& 4294967295) / 1024) * 1024) + ((v.toInt64 &&& 4294967295) - (v.toInt64 &&& 4294967295) / 1024 * 1024)) hK _ _ ls hP hD hS (lv_sub hl [0, 9, 7] rfl) (fun H locs ls hls hP hD hS => ?_)
                        exact W.iret (v := (s_b232 how ((((((z ((((((v.toInt64 &&& 4294967295) / 1024) - ((v.toInt64 &&& 4294967295) / 1024) / 8 * 8).toInt32) + 0) + 8).toNatClampNeg).toInt64) &&& 4294967295) / 1024) * 1024) + ((v.toInt64 &&& 4294967295) - (v.toInt64 &&& 4294967295) / 1024 * 1024))).1) hx hb hr (fun t ht hW => ⟨⟨(s_b232 how ((((((z ((((((v.toInt64 &&& 4294967295) / 1024) - ((v.toInt64 &&& 4294967295) / 1024) / 8 * 8).toInt32) + 0) + 8).toNatClampNeg).toInt64) &&& 4294967295) / 1024) * 1024) + ((v.toInt64 &&& 4294967295) - (v.toInt64 &&& 4294967295) / 1024 * 1024))).1, ((s_b232 how ((((((z ((((((v.toInt64 &&& 4294967295) / 1024) - ((v.toInt64 &&& 4294967295) / 1024) / 8 * 8).toInt32) + 0) + 8).toNatClampNeg).toInt64) &&& 4294967295) / 1024) * 1024) + ((v.toInt64 &&& 4294967295) - (v.toInt64 &&& 4294967295) / 1024 * 1024))).2), rfl, by simp only [s_M_wrong, if_neg c_1, if_pos c_3, if_pos c_4, if_neg c_30, if_neg c_32, if_pos c_34, if_neg c_35, if_pos c_38, if_neg c_39], by rw [ht]; exact hP, va_K.moved hW.alike hK, hD⟩, hS.F ht⟩) hS.2.2 dM_wrong_309
                      · skip
                        refine lv_iload_n hx hb dM_wrong_203 rfl (lv_at hl 9 rfl) ?_
                        refine lv_if_ne (tgt := 211) hx hb dM_wrong_204 (by decide) (fun c_40 => ?_) (fun c_40 => ?_)
                        · exact absurd c_4 c_40
                        · skip
                          refine lv_iconst (v := 4) hx hb dM_wrong_207 (by decide) ?_
                          refine lv_goto (tgt := 212) hx hb dM_wrong_208 (by decide) ?_
                          exact W.iret (v := 4) hx hb hr (fun t ht hW => ⟨⟨4, fo, rfl, by simp only [s_M_wrong, if_neg c_1, if_pos c_3, if_pos c_4, if_neg c_30, if_neg c_32, if_pos c_34, if_neg c_35, if_pos c_38, if_pos c_39], by rw [ht]; exact hP, va_K.moved hW.alike hK, hD⟩, hS.F ht⟩) hS.2.2 dM_wrong_212
                    · skip
                      refine lv_ldc2 (v := 4) hx hb hown (hts _ mbM_wrong_9) dM_wrong_180 ?_
                      refine lv_goto (tgt := 187) hx hb dM_wrong_183 (by decide) ?_
                      refine lv_lstore (lv' := [(14, .long 4), (12, .long (((z ((((((v.toInt64 &&& 4294967295) / 1024) - ((v.toInt64 &&& 4294967295) / 1024) / 8 * 8).toInt32) + 0) + 8).toNatClampNeg).toInt64) &&& 4294967295)), (10, .long (((z (((((v.toInt64 &&& 4294967295) / 1024) - ((v.toInt64 &&& 4294967295) / 1024) / 8 * 8).toInt32) + 0).toNatClampNeg).toInt64) &&& 4294967295)), (9, .int (((((v.toInt64 &&& 4294967295) / 1024) - ((v.toInt64 &&& 4294967295) / 1024) / 8 * 8).toInt32) + 0)), (7, .long ((v.toInt64 &&& 4294967295) / 1024)), (5, .long (v.toInt64 &&& 4294967295)), (4, .int 1), (0, .ref k0), (1, .int v), (2, .int how), (3, .int wd)]) hx hb dM_wrong_187 hl (by decide) rfl (fun ls hl => ?_)
                      refine lv_lload hx hb dM_wrong_189 (lv_at hl 1 rfl) ?_
                      refine lv_lload hx hb dM_wrong_191 (lv_at hl 0 rfl) ?_
                      refine lv_ldiv hx hb dM_wrong_193 (by decide) ?_
                      refine lv_ldc2 (v := 2) hx hb hown (hts _ mbM_wrong_8) dM_wrong_194 ?_
                      refine lv_lrem hx hb dM_wrong_197 (by decide) ?_
                      refine lv_lconst (v := 0) hx hb dM_wrong_198 (by decide) ?_
                      refine W.lcmp hx hb dM_wrong_199 ?_
                      refine lv_if_ne (tgt := 213) hx hb dM_wrong_200 (by decide) (fun c_41 => ?_) (fun c_41 => ?_)
                      · skip
                        refine lv_lload hx hb dM_wrong_213 (lv_at hl 1 rfl) ?_
                        refine lv_ldc2 (v := 1024) hx hb hown (hts _ mbM_wrong_5) dM_wrong_215 ?_
                        refine lv_ldiv hx hb dM_wrong_218 (by decide) ?_
                        refine lv_ldc2 (v := 1024) hx hb hown (hts _ mbM_wrong_5) dM_wrong_219 ?_
                        refine lv_lmul hx hb dM_wrong_222 ?_
                        refine lv_lload hx hb dM_wrong_223 (lv_at hl 5 rfl) ?_
                        refine lv_ldc2 (v := 1024) hx hb hown (hts _ mbM_wrong_5) dM_wrong_225 ?_
                        refine lv_lrem hx hb dM_wrong_228 (by decide) ?_
                        refine lv_ladd hx hb dM_wrong_229 ?_
                        refine lv_lstore (lv' := [(5, .long ((((((z ((((((v.toInt64 &&& 4294967295) / 1024) - ((v.toInt64 &&& 4294967295) / 1024) / 8 * 8).toInt32) + 0) + 8).toNatClampNeg).toInt64) &&& 4294967295) / 1024) * 1024) + ((v.toInt64 &&& 4294967295) - (v.toInt64 &&& 4294967295) / 1024 * 1024))), (14, .long 4), (12, .long (((z ((((((v.toInt64 &&& 4294967295) / 1024) - ((v.toInt64 &&& 4294967295) / 1024) / 8 * 8).toInt32) + 0) + 8).toNatClampNeg).toInt64) &&& 4294967295)), (10, .long (((z (((((v.toInt64 &&& 4294967295) / 1024) - ((v.toInt64 &&& 4294967295) / 1024) / 8 * 8).toInt32) + 0).toNatClampNeg).toInt64) &&& 4294967295)), (9, .int (((((v.toInt64 &&& 4294967295) / 1024) - ((v.toInt64 &&& 4294967295) / 1024) / 8 * 8).toInt32) + 0)), (7, .long ((v.toInt64 &&& 4294967295) / 1024)), (4, .int 1), (0, .ref k0), (1, .int v), (2, .int how), (3, .int wd)]) hx hb dM_wrong_230 hl (by decide) rfl (fun ls hl => ?_)
                        refine b_M_wrong hx hb hown hts dC dI k0 yb zb cI y z th a1 a2 a3 a4 a5 a6 fo how ((((((z ((((((v.toInt64 &&& 4294967295) / 1024) - ((v.toInt64 &&& 4294967295) / 1024) / 8 * 8).toInt32) + 0) + 8).toNatClampNeg).toInt64) &&& 4294967295) / 1024) * 1024) + ((v.toInt64 &&& 4294967295) - (v.toInt64 &&& 4294967295) / 1024 * 1024)) hK _ _ ls hP hD hS (lv_sub hl [0, 9, 7] rfl) (fun H locs ls hls hP hD hS => ?_)
                        exact W.iret (v := (s_b232 how ((((((z ((((((v.toInt64 &&& 4294967295) / 1024) - ((v.toInt64 &&& 4294967295) / 1024) / 8 * 8).toInt32) + 0) + 8).toNatClampNeg).toInt64) &&& 4294967295) / 1024) * 1024) + ((v.toInt64 &&& 4294967295) - (v.toInt64 &&& 4294967295) / 1024 * 1024))).1) hx hb hr (fun t ht hW => ⟨⟨(s_b232 how ((((((z ((((((v.toInt64 &&& 4294967295) / 1024) - ((v.toInt64 &&& 4294967295) / 1024) / 8 * 8).toInt32) + 0) + 8).toNatClampNeg).toInt64) &&& 4294967295) / 1024) * 1024) + ((v.toInt64 &&& 4294967295) - (v.toInt64 &&& 4294967295) / 1024 * 1024))).1, ((s_b232 how ((((((z ((((((v.toInt64 &&& 4294967295) / 1024) - ((v.toInt64 &&& 4294967295) / 1024) / 8 * 8).toInt32) + 0) + 8).toNatClampNeg).toInt64) &&& 4294967295) / 1024) * 1024) + ((v.toInt64 &&& 4294967295) - (v.toInt64 &&& 4294967295) / 1024 * 1024))).2), rfl, by simp only [s_M_wrong, if_neg c_1, if_pos c_3, if_pos c_4, if_neg c_30, if_neg c_32, if_pos c_34, if_neg c_35, if_neg c_38, if_neg c_41], by rw [ht]; exact hP, va_K.moved hW.alike hK, hD⟩, hS.F ht⟩) hS.2.2 dM_wrong_309
                      · skip
                        refine lv_iload_n hx hb dM_wrong_203 rfl (lv_at hl 9 rfl) ?_
                        refine lv_if_ne (tgt := 211) hx hb dM_wrong_204 (by decide) (fun c_42 => ?_) (fun c_42 => ?_)
                        · exact absurd c_4 c_42
                        · skip
                          refine lv_iconst (v := 4) hx hb dM_wrong_207 (by decide) ?_
                          refine lv_goto (tgt := 212) hx hb dM_wrong_208 (by decide) ?_
                          exact W.iret (v := 4) hx hb hr (fun t ht hW => ⟨⟨4, fo, rfl, by simp only [s_M_wrong, if_neg c_1, if_pos c_3, if_pos c_4, if_neg c_30, if_neg c_32, if_pos c_34, if_neg c_35, if_neg c_38, if_pos c_41], by rw [ht]; exact hP, va_K.moved hW.alike hK, hD⟩, hS.F ht⟩) hS.2.2 dM_wrong_212
                  · skip
                    refine lv_aload_n hx hb dM_wrong_152 rfl (lv_at hl 6 rfl) ?_
                    refine lv_iconst (v := 1) hx hb dM_wrong_153 (by decide) ?_
                    have hPc := hP.sub (ws' := [(k0, .inr (2, [.int th, .ref yb, .ref zb, .int a1, .int a2, .int a3, .int a4, .int a5, .int a6, .int fo])), (yb, .inl (cI, 65536, .inl y)), (zb, .inl (cI, 33, .inl z))]) [0, 1, 2] rfl
                    have hKc := hK.sub (tys' := [(cI, .int)]) [0] rfl
                    refine vp_callSi (va_Run.run (va_runV (As := [.int 1]) (rest := []) ⟨hx, hb, hml, hown, hts⟩ (c_M_mode l dC dI k0 yb zb cI y z th a1 a2 a3 a4 a5 a6 fo 1 (by decide)) (cwV 1 hts gM_wrong_M_mode rfl rfl rfl (by decide +kernel) ⟨Nat.le_of_ble_eq_true rfl, Nat.le_of_ble_eq_true rfl⟩) ⟨fun a U g mk q => by obtain ⟨q0, qP, qK⟩ := q; exact ⟨q0, qP, va_K.moved (u := U) (U := U.calling g mk a) (Vm.Alike.refl U.vm) qK⟩, va_recv hKc hPc (ci := 2) (q0 := 0) rfl rfl, fun U hU hW => ⟨rfl, by rw [hU]; exact hPc, va_K.moved hW.alike hKc⟩⟩ rfl rfl hl.1 rfl (lv_room (Nat.le_of_ble_eq_true rfl)) dM_wrong_154 ⟨Nat.le_of_ble_eq_true rfl, Nat.le_of_ble_eq_true rfl⟩)) (fun r_43 hw_44 => ?_)
                    subst hw_44
                    refine lv_if_eq (tgt := 166) hx hb dM_wrong_157 (by decide) (fun c_45 => ?_) (fun c_45 => ?_)
                    · skip
                      refine lv_ldc2 (v := 2) hx hb hown (hts _ mbM_wrong_8) dM_wrong_166 ?_
                      refine lv_goto (tgt := 187) hx hb dM_wrong_169 (by decide) ?_
                      refine lv_lstore (lv' := [(14, .long 2), (12, .long (((z ((((((v.toInt64 &&& 4294967295) / 1024) - ((v.toInt64 &&& 4294967295) / 1024) / 8 * 8).toInt32) + 0) + 8).toNatClampNeg).toInt64) &&& 4294967295)), (10, .long (((z (((((v.toInt64 &&& 4294967295) / 1024) - ((v.toInt64 &&& 4294967295) / 1024) / 8 * 8).toInt32) + 0).toNatClampNeg).toInt64) &&& 4294967295)), (9, .int (((((v.toInt64 &&& 4294967295) / 1024) - ((v.toInt64 &&& 4294967295) / 1024) / 8 * 8).toInt32) + 0)), (7, .long ((v.toInt64 &&& 4294967295) / 1024)), (5, .long (v.toInt64 &&& 4294967295)), (4, .int 1), (0, .ref k0), (1, .int v), (2, .int how), (3, .int wd)]) hx hb dM_wrong_187 hl (by decide) rfl (fun ls hl => ?_)
                      refine lv_lload hx hb dM_wrong_189 (lv_at hl 1 rfl) ?_
                      refine lv_lload hx hb dM_wrong_191 (lv_at hl 0 rfl) ?_
                      refine lv_ldiv hx hb dM_wrong_193 (by decide) ?_
                      refine lv_ldc2 (v := 2) hx hb hown (hts _ mbM_wrong_8) dM_wrong_194 ?_
                      refine lv_lrem hx hb dM_wrong_197 (by decide) ?_
                      refine lv_lconst (v := 0) hx hb dM_wrong_198 (by decide) ?_
                      refine W.lcmp hx hb dM_wrong_199 ?_
                      refine lv_if_ne (tgt := 213) hx hb dM_wrong_200 (by decide) (fun c_46 => ?_) (fun c_46 => ?_)
                      · skip
                        refine lv_lload hx hb dM_wrong_213 (lv_at hl 1 rfl) ?_
                        refine lv_ldc2 (v := 1024) hx hb hown (hts _ mbM_wrong_5) dM_wrong_215 ?_
                        refine lv_ldiv hx hb dM_wrong_218 (by decide) ?_
                        refine lv_ldc2 (v := 1024) hx hb hown (hts _ mbM_wrong_5) dM_wrong_219 ?_
                        refine lv_lmul hx hb dM_wrong_222 ?_
                        refine lv_lload hx hb dM_wrong_223 (lv_at hl 5 rfl) ?_
                        refine lv_ldc2 (v := 1024) hx hb hown (hts _ mbM_wrong_5) dM_wrong_225 ?_
                        refine lv_lrem hx hb dM_wrong_228 (by decide) ?_
                        refine lv_ladd hx hb dM_wrong_229 ?_
                        refine lv_lstore (lv' := [(5, .long ((((((z ((((((v.toInt64 &&& 4294967295) / 1024) - ((v.toInt64 &&& 4294967295) / 1024) / 8 * 8).toInt32) + 0) + 8).toNatClampNeg).toInt64) &&& 4294967295) / 1024) * 1024) + ((v.toInt64 &&& 4294967295) - (v.toInt64 &&& 4294967295) / 1024 * 1024))), (14, .long 2), (12, .long (((z ((((((v.toInt64 &&& 4294967295) / 1024) - ((v.toInt64 &&& 4294967295) / 1024) / 8 * 8).toInt32) + 0) + 8).toNatClampNeg).toInt64) &&& 4294967295)), (10, .long (((z (((((v.toInt64 &&& 4294967295) / 1024) - ((v.toInt64 &&& 4294967295) / 1024) / 8 * 8).toInt32) + 0).toNatClampNeg).toInt64) &&& 4294967295)), (9, .int (((((v.toInt64 &&& 4294967295) / 1024) - ((v.toInt64 &&& 4294967295) / 1024) / 8 * 8).toInt32) + 0)), (7, .long ((v.toInt64 &&& 4294967295) / 1024)), (4, .int 1), (0, .ref k0), (1, .int v), (2, .int how), (3, .int wd)]) hx hb dM_wrong_230 hl (by decide) rfl (fun ls hl => ?_)
                        refine b_M_wrong hx hb hown hts dC dI k0 yb zb cI y z th a1 a2 a3 a4 a5 a6 fo how ((((((z ((((((v.toInt64 &&& 4294967295) / 1024) - ((v.toInt64 &&& 4294967295) / 1024) / 8 * 8).toInt32) + 0) + 8).toNatClampNeg).toInt64) &&& 4294967295) / 1024) * 1024) + ((v.toInt64 &&& 4294967295) - (v.toInt64 &&& 4294967295) / 1024 * 1024)) hK _ _ ls hP hD hS (lv_sub hl [0, 9, 7] rfl) (fun H locs ls hls hP hD hS => ?_)
                        exact W.iret (v := (s_b232 how ((((((z ((((((v.toInt64 &&& 4294967295) / 1024) - ((v.toInt64 &&& 4294967295) / 1024) / 8 * 8).toInt32) + 0) + 8).toNatClampNeg).toInt64) &&& 4294967295) / 1024) * 1024) + ((v.toInt64 &&& 4294967295) - (v.toInt64 &&& 4294967295) / 1024 * 1024))).1) hx hb hr (fun t ht hW => ⟨⟨(s_b232 how ((((((z ((((((v.toInt64 &&& 4294967295) / 1024) - ((v.toInt64 &&& 4294967295) / 1024) / 8 * 8).toInt32) + 0) + 8).toNatClampNeg).toInt64) &&& 4294967295) / 1024) * 1024) + ((v.toInt64 &&& 4294967295) - (v.toInt64 &&& 4294967295) / 1024 * 1024))).1, ((s_b232 how ((((((z ((((((v.toInt64 &&& 4294967295) / 1024) - ((v.toInt64 &&& 4294967295) / 1024) / 8 * 8).toInt32) + 0) + 8).toNatClampNeg).toInt64) &&& 4294967295) / 1024) * 1024) + ((v.toInt64 &&& 4294967295) - (v.toInt64 &&& 4294967295) / 1024 * 1024))).2), rfl, by simp only [s_M_wrong, if_neg c_1, if_pos c_3, if_pos c_4, if_neg c_30, if_neg c_32, if_pos c_34, if_pos c_35, if_pos c_45, if_neg c_46], by rw [ht]; exact hP, va_K.moved hW.alike hK, hD⟩, hS.F ht⟩) hS.2.2 dM_wrong_309
                      · skip
                        refine lv_iload_n hx hb dM_wrong_203 rfl (lv_at hl 9 rfl) ?_
                        refine lv_if_ne (tgt := 211) hx hb dM_wrong_204 (by decide) (fun c_47 => ?_) (fun c_47 => ?_)
                        · exact absurd c_4 c_47
                        · skip
                          refine lv_iconst (v := 4) hx hb dM_wrong_207 (by decide) ?_
                          refine lv_goto (tgt := 212) hx hb dM_wrong_208 (by decide) ?_
                          exact W.iret (v := 4) hx hb hr (fun t ht hW => ⟨⟨4, fo, rfl, by simp only [s_M_wrong, if_neg c_1, if_pos c_3, if_pos c_4, if_neg c_30, if_neg c_32, if_pos c_34, if_pos c_35, if_pos c_45, if_pos c_46], by rw [ht]; exact hP, va_K.moved hW.alike hK, hD⟩, hS.F ht⟩) hS.2.2 dM_wrong_212
                    · skip
                      refine lv_ldc2 (v := 8) hx hb hown (hts _ mbM_wrong_6) dM_wrong_160 ?_
                      refine lv_goto (tgt := 187) hx hb dM_wrong_163 (by decide) ?_
                      refine lv_lstore (lv' := [(14, .long 8), (12, .long (((z ((((((v.toInt64 &&& 4294967295) / 1024) - ((v.toInt64 &&& 4294967295) / 1024) / 8 * 8).toInt32) + 0) + 8).toNatClampNeg).toInt64) &&& 4294967295)), (10, .long (((z (((((v.toInt64 &&& 4294967295) / 1024) - ((v.toInt64 &&& 4294967295) / 1024) / 8 * 8).toInt32) + 0).toNatClampNeg).toInt64) &&& 4294967295)), (9, .int (((((v.toInt64 &&& 4294967295) / 1024) - ((v.toInt64 &&& 4294967295) / 1024) / 8 * 8).toInt32) + 0)), (7, .long ((v.toInt64 &&& 4294967295) / 1024)), (5, .long (v.toInt64 &&& 4294967295)), (4, .int 1), (0, .ref k0), (1, .int v), (2, .int how), (3, .int wd)]) hx hb dM_wrong_187 hl (by decide) rfl (fun ls hl => ?_)
                      refine lv_lload hx hb dM_wrong_189 (lv_at hl 1 rfl) ?_
                      refine lv_lload hx hb dM_wrong_191 (lv_at hl 0 rfl) ?_
                      refine lv_ldiv hx hb dM_wrong_193 (by decide) ?_
                      refine lv_ldc2 (v := 2) hx hb hown (hts _ mbM_wrong_8) dM_wrong_194 ?_
                      refine lv_lrem hx hb dM_wrong_197 (by decide) ?_
                      refine lv_lconst (v := 0) hx hb dM_wrong_198 (by decide) ?_
                      refine W.lcmp hx hb dM_wrong_199 ?_
                      refine lv_if_ne (tgt := 213) hx hb dM_wrong_200 (by decide) (fun c_48 => ?_) (fun c_48 => ?_)
                      · skip
                        refine lv_lload hx hb dM_wrong_213 (lv_at hl 1 rfl) ?_
                        refine lv_ldc2 (v := 1024) hx hb hown (hts _ mbM_wrong_5) dM_wrong_215 ?_
                        refine lv_ldiv hx hb dM_wrong_218 (by decide) ?_
                        refine lv_ldc2 (v := 1024) hx hb hown (hts _ mbM_wrong_5) dM_wrong_219 ?_
                        refine lv_lmul hx hb dM_wrong_222 ?_
                        refine lv_lload hx hb dM_wrong_223 (lv_at hl 5 rfl) ?_
                        refine lv_ldc2 (v := 1024) hx hb hown (hts _ mbM_wrong_5) dM_wrong_225 ?_
                        refine lv_lrem hx hb dM_wrong_228 (by decide) ?_
                        refine lv_ladd hx hb dM_wrong_229 ?_
                        refine lv_lstore (lv' := [(5, .long ((((((z ((((((v.toInt64 &&& 4294967295) / 1024) - ((v.toInt64 &&& 4294967295) / 1024) / 8 * 8).toInt32) + 0) + 8).toNatClampNeg).toInt64) &&& 4294967295) / 1024) * 1024) + ((v.toInt64 &&& 4294967295) - (v.toInt64 &&& 4294967295) / 1024 * 1024))), (14, .long 8), (12, .long (((z ((((((v.toInt64 &&& 4294967295) / 1024) - ((v.toInt64 &&& 4294967295) / 1024) / 8 * 8).toInt32) + 0) + 8).toNatClampNeg).toInt64) &&& 4294967295)), (10, .long (((z (((((v.toInt64 &&& 4294967295) / 1024) - ((v.toInt64 &&& 4294967295) / 1024) / 8 * 8).toInt32) + 0).toNatClampNeg).toInt64) &&& 4294967295)), (9, .int (((((v.toInt64 &&& 4294967295) / 1024) - ((v.toInt64 &&& 4294967295) / 1024) / 8 * 8).toInt32) + 0)), (7, .long ((v.toInt64 &&& 4294967295) / 1024)), (4, .int 1), (0, .ref k0), (1, .int v), (2, .int how), (3, .int wd)]) hx hb dM_wrong_230 hl (by decide) rfl (fun ls hl => ?_)
                        refine b_M_wrong hx hb hown hts dC dI k0 yb zb cI y z th a1 a2 a3 a4 a5 a6 fo how ((((((z ((((((v.toInt64 &&& 4294967295) / 1024) - ((v.toInt64 &&& 4294967295) / 1024) / 8 * 8).toInt32) + 0) + 8).toNatClampNeg).toInt64) &&& 4294967295) / 1024) * 1024) + ((v.toInt64 &&& 4294967295) - (v.toInt64 &&& 4294967295) / 1024 * 1024)) hK _ _ ls hP hD hS (lv_sub hl [0, 9, 7] rfl) (fun H locs ls hls hP hD hS => ?_)
                        exact W.iret (v := (s_b232 how ((((((z ((((((v.toInt64 &&& 4294967295) / 1024) - ((v.toInt64 &&& 4294967295) / 1024) / 8 * 8).toInt32) + 0) + 8).toNatClampNeg).toInt64) &&& 4294967295) / 1024) * 1024) + ((v.toInt64 &&& 4294967295) - (v.toInt64 &&& 4294967295) / 1024 * 1024))).1) hx hb hr (fun t ht hW => ⟨⟨(s_b232 how ((((((z ((((((v.toInt64 &&& 4294967295) / 1024) - ((v.toInt64 &&& 4294967295) / 1024) / 8 * 8).toInt32) + 0) + 8).toNatClampNeg).toInt64) &&& 4294967295) / 1024) * 1024) + ((v.toInt64 &&& 4294967295) - (v.toInt64 &&& 4294967295) / 1024 * 1024))).1, ((s_b232 how ((((((z ((((((v.toInt64 &&& 4294967295) / 1024) - ((v.toInt64 &&& 4294967295) / 1024) / 8 * 8).toInt32) + 0) + 8).toNatClampNeg).toInt64) &&& 4294967295) / 1024) * 1024) + ((v.toInt64 &&& 4294967295) - (v.toInt64 &&& 4294967295) / 1024 * 1024))).2), rfl, by simp only [s_M_wrong, if_neg c_1, if_pos c_3, if_pos c_4, if_neg c_30, if_neg c_32, if_pos c_34, if_pos c_35, if_neg c_45, if_neg c_48], by rw [ht]; exact hP, va_K.moved hW.alike hK, hD⟩, hS.F ht⟩) hS.2.2 dM_wrong_309
                      · skip
                        refine lv_iload_n hx hb dM_wrong_203 rfl (lv_at hl 9 rfl) ?_
                        refine lv_if_ne (tgt := 211) hx hb dM_wrong_204 (by decide) (fun c_49 => ?_) (fun c_49 => ?_)
                        · exact absurd c_4 c_49
                        · skip
                          refine lv_iconst (v := 4) hx hb dM_wrong_207 (by decide) ?_
                          refine lv_goto (tgt := 212) hx hb dM_wrong_208 (by decide) ?_
                          exact W.iret (v := 4) hx hb hr (fun t ht hW => ⟨⟨4, fo, rfl, by simp only [s_M_wrong, if_neg c_1, if_pos c_3, if_pos c_4, if_neg c_30, if_neg c_32, if_pos c_34, if_pos c_35, if_neg c_45, if_pos c_48], by rw [ht]; exact hP, va_K.moved hW.alike hK, hD⟩, hS.F ht⟩) hS.2.2 dM_wrong_212
                · skip
                  refine lv_iload_n hx hb dM_wrong_135 rfl (lv_at hl 8 rfl) ?_
                  refine lv_if_ne (tgt := 144) hx hb dM_wrong_136 (by decide) (fun c_50 => ?_) (fun c_50 => ?_)
                  · exact absurd c_4 c_50
                  · skip
                    refine lv_bipush (v := 10) hx hb dM_wrong_139 (by decide) ?_
                    refine lv_goto (tgt := 146) hx hb dM_wrong_141 (by decide) ?_
                    exact W.iret (v := 10) hx hb hr (fun t ht hW => ⟨⟨10, fo, rfl, by simp only [s_M_wrong, if_neg c_1, if_pos c_3, if_pos c_4, if_neg c_30, if_neg c_32, if_neg c_34], by rw [ht]; exact hP, va_K.moved hW.alike hK, hD⟩, hS.F ht⟩) hS.2.2 dM_wrong_146
      · skip
        refine lv_bipush (v := 6) hx hb dM_wrong_26 (by decide) ?_
        exact W.iret (v := 6) hx hb hr (fun t ht hW => ⟨⟨6, fo, rfl, by simp only [s_M_wrong, if_neg c_1, if_neg c_3], by rw [ht]; exact hP, va_K.moved hW.alike hK, hD⟩, hS.F ht⟩) hS.2.2 dM_wrong_28
  · skip
    refine lv_iload_n hx hb dM_wrong_4 rfl (lv_at hl 2 rfl) ?_
    refine lv_if_ne (tgt := 12) hx hb dM_wrong_5 (by decide) (fun c_51 => ?_) (fun c_51 => ?_)
    · skip
      refine lv_iconst (v := 0) hx hb dM_wrong_12 (by decide) ?_
      refine lv_istore (lv' := [(4, .int 0), (0, .ref k0), (1, .int v), (2, .int how), (3, .int wd)]) hx hb dM_wrong_13 hl (by decide) rfl (fun ls hl => ?_)
      refine lv_iload hx hb dM_wrong_15 (lv_at hl 0 rfl) ?_
      refine lv_if_eq (tgt := 29) hx hb dM_wrong_17 (by decide) (fun c_52 => ?_) (fun c_52 => ?_)
      · skip
        refine lv_iload_n hx hb dM_wrong_29 rfl (lv_at hl 2 rfl) ?_
        refine lv_i2l (v := v.toInt64) hx hb dM_wrong_30 rfl ?_
        refine lv_ldc2 (v := 4294967295) hx hb hown (hts _ mbM_wrong_4) dM_wrong_31 ?_
        refine lv_land hx hb dM_wrong_34 ?_
        refine lv_lstore (lv' := [(5, .long (v.toInt64 &&& 4294967295)), (4, .int 0), (0, .ref k0), (1, .int v), (2, .int how), (3, .int wd)]) hx hb dM_wrong_35 hl (by decide) rfl (fun ls hl => ?_)
        refine lv_aload_n hx hb dM_wrong_37 rfl (lv_at hl 2 rfl) ?_
        refine lv_iload_n hx hb dM_wrong_38 rfl (lv_at hl 4 rfl) ?_
        refine lv_if_ne (tgt := 46) hx hb dM_wrong_39 (by decide) (fun c_53 => ?_) (fun c_53 => ?_)
        · skip
          refine lv_iconst (v := 4) hx hb dM_wrong_46 (by decide) ?_
          have hPc := hP.sub (ws' := [(k0, .inr (2, [.int th, .ref yb, .ref zb, .int a1, .int a2, .int a3, .int a4, .int a5, .int a6, .int fo])), (yb, .inl (cI, 65536, .inl y)), (zb, .inl (cI, 33, .inl z))]) [0, 1, 2] rfl
          have hKc := hK.sub (tys' := [(cI, .int)]) [0] rfl
          refine vp_callSi (va_Run.run (va_runV (As := [.int 4]) (rest := []) ⟨hx, hb, hml, hown, hts⟩ (c_M_mode l dC dI k0 yb zb cI y z th a1 a2 a3 a4 a5 a6 fo 4 (by decide)) (cwV 1 hts gM_wrong_M_mode rfl rfl rfl (by decide +kernel) ⟨Nat.le_of_ble_eq_true rfl, Nat.le_of_ble_eq_true rfl⟩) ⟨fun a U g mk q => by obtain ⟨q0, qP, qK⟩ := q; exact ⟨q0, qP, va_K.moved (u := U) (U := U.calling g mk a) (Vm.Alike.refl U.vm) qK⟩, va_recv hKc hPc (ci := 2) (q0 := 0) rfl rfl, fun U hU hW => ⟨rfl, by rw [hU]; exact hPc, va_K.moved hW.alike hKc⟩⟩ rfl rfl hl.1 rfl (lv_room (Nat.le_of_ble_eq_true rfl)) dM_wrong_47 ⟨Nat.le_of_ble_eq_true rfl, Nat.le_of_ble_eq_true rfl⟩)) (fun r_54 hw_55 => ?_)
          subst hw_55
          refine lv_if_eq (tgt := 232) hx hb dM_wrong_50 (by decide) (fun c_56 => ?_) (fun c_56 => ?_)
          · skip
            refine b_M_wrong hx hb hown hts dC dI k0 yb zb cI y z th a1 a2 a3 a4 a5 a6 fo how (v.toInt64 &&& 4294967295) hK _ _ ls hP hD hS (lv_sub hl [0, 4, 2] rfl) (fun H locs ls hls hP hD hS => ?_)
            exact W.iret (v := (s_b232 how (v.toInt64 &&& 4294967295)).1) hx hb hr (fun t ht hW => ⟨⟨(s_b232 how (v.toInt64 &&& 4294967295)).1, ((s_b232 how (v.toInt64 &&& 4294967295)).2), rfl, by simp only [s_M_wrong, if_pos c_1, if_neg c_51, if_pos c_56], by rw [ht]; exact hP, va_K.moved hW.alike hK, hD⟩, hS.F ht⟩) hS.2.2 dM_wrong_309
          · skip
            refine lv_lload hx hb dM_wrong_53 (lv_at hl 0 rfl) ?_
            refine lv_ldc2 (v := 1024) hx hb hown (hts _ mbM_wrong_5) dM_wrong_55 ?_
            refine lv_ldiv hx hb dM_wrong_58 (by decide) ?_
            refine lv_lstore (lv' := [(7, .long ((v.toInt64 &&& 4294967295) / 1024)), (5, .long (v.toInt64 &&& 4294967295)), (4, .int 0), (0, .ref k0), (1, .int v), (2, .int how), (3, .int wd)]) hx hb dM_wrong_59 hl (by decide) rfl (fun ls hl => ?_)
            refine lv_lload hx hb dM_wrong_61 (lv_at hl 0 rfl) ?_
            refine lv_ldc2 (v := 8) hx hb hown (hts _ mbM_wrong_6) dM_wrong_63 ?_
            refine lv_lrem hx hb dM_wrong_66 (by decide) ?_
            refine lv_l2i (v := (((v.toInt64 &&& 4294967295) / 1024) - ((v.toInt64 &&& 4294967295) / 1024) / 8 * 8).toInt32) hx hb dM_wrong_67 rfl ?_
            refine lv_iload_n hx hb dM_wrong_68 rfl (lv_at hl 5 rfl) ?_
            refine lv_if_ne (tgt := 76) hx hb dM_wrong_69 (by decide) (fun c_57 => ?_) (fun c_57 => ?_)
            · skip
              refine lv_bipush (v := 16) hx hb dM_wrong_76 (by decide) ?_
              refine lv_iadd hx hb dM_wrong_78 ?_
              refine lv_istore (lv' := [(9, .int (((((v.toInt64 &&& 4294967295) / 1024) - ((v.toInt64 &&& 4294967295) / 1024) / 8 * 8).toInt32) + 16)), (7, .long ((v.toInt64 &&& 4294967295) / 1024)), (5, .long (v.toInt64 &&& 4294967295)), (4, .int 0), (0, .ref k0), (1, .int v), (2, .int how), (3, .int wd)]) hx hb dM_wrong_79 hl (by decide) rfl (fun ls hl => ?_)
              refine lv_aload_n hx hb dM_wrong_81 rfl (lv_at hl 4 rfl) ?_
              refine va_get (D := (dC, dI)) (ci := 2) (v := .ref zb) (C := RX2) (T := TX2) (N := 10) hx hb hts miM_wrong_X2 hown hK hP 0 rfl rfl 2 (by decide) (hts _ mbM_wrong_7) (fun _ h9 => h9) rfl dM_wrong_82 ?_
              refine lv_iload hx hb dM_wrong_85 (lv_at hl 0 rfl) ?_
              refine va_iald hx hb hK hP 2 0 rfl rfl (in_w v 16 (by decide) _ rfl) dM_wrong_87 ?_
              refine lv_i2l (v := (z (((((v.toInt64 &&& 4294967295) / 1024) - ((v.toInt64 &&& 4294967295) / 1024) / 8 * 8).toInt32) + 16).toNatClampNeg).toInt64) hx hb dM_wrong_88 rfl ?_
              refine lv_ldc2 (v := 4294967295) hx hb hown (hts _ mbM_wrong_4) dM_wrong_89 ?_
              refine lv_land hx hb dM_wrong_92 ?_
              refine lv_lstore (lv' := [(10, .long (((z (((((v.toInt64 &&& 4294967295) / 1024) - ((v.toInt64 &&& 4294967295) / 1024) / 8 * 8).toInt32) + 16).toNatClampNeg).toInt64) &&& 4294967295)), (9, .int (((((v.toInt64 &&& 4294967295) / 1024) - ((v.toInt64 &&& 4294967295) / 1024) / 8 * 8).toInt32) + 16)), (7, .long ((v.toInt64 &&& 4294967295) / 1024)), (5, .long (v.toInt64 &&& 4294967295)), (4, .int 0), (0, .ref k0), (1, .int v), (2, .int how), (3, .int wd)]) hx hb dM_wrong_93 hl (by decide) rfl (fun ls hl => ?_)
              refine lv_aload_n hx hb dM_wrong_95 rfl (lv_at hl 5 rfl) ?_
              refine va_get (D := (dC, dI)) (ci := 2) (v := .ref zb) (C := RX2) (T := TX2) (N := 10) hx hb hts miM_wrong_X2 hown hK hP 0 rfl rfl 2 (by decide) (hts _ mbM_wrong_7) (fun _ h9 => h9) rfl dM_wrong_96 ?_
              refine lv_iload hx hb dM_wrong_99 (lv_at hl 1 rfl) ?_
              refine lv_bipush (v := 8) hx hb dM_wrong_101 (by decide) ?_
              refine lv_iadd hx hb dM_wrong_103 ?_
              refine va_iald hx hb hK hP 2 0 rfl rfl (in_w8 v 16 (by decide) _ rfl) dM_wrong_104 ?_
              refine lv_i2l (v := (z ((((((v.toInt64 &&& 4294967295) / 1024) - ((v.toInt64 &&& 4294967295) / 1024) / 8 * 8).toInt32) + 16) + 8).toNatClampNeg).toInt64) hx hb dM_wrong_105 rfl ?_
              refine lv_ldc2 (v := 4294967295) hx hb hown (hts _ mbM_wrong_4) dM_wrong_106 ?_
              refine lv_land hx hb dM_wrong_109 ?_
              refine lv_lstore (lv' := [(12, .long (((z ((((((v.toInt64 &&& 4294967295) / 1024) - ((v.toInt64 &&& 4294967295) / 1024) / 8 * 8).toInt32) + 16) + 8).toNatClampNeg).toInt64) &&& 4294967295)), (10, .long (((z (((((v.toInt64 &&& 4294967295) / 1024) - ((v.toInt64 &&& 4294967295) / 1024) / 8 * 8).toInt32) + 16).toNatClampNeg).toInt64) &&& 4294967295)), (9, .int (((((v.toInt64 &&& 4294967295) / 1024) - ((v.toInt64 &&& 4294967295) / 1024) / 8 * 8).toInt32) + 16)), (7, .long ((v.toInt64 &&& 4294967295) / 1024)), (5, .long (v.toInt64 &&& 4294967295)), (4, .int 0), (0, .ref k0), (1, .int v), (2, .int how), (3, .int wd)]) hx hb dM_wrong_110 hl (by decide) rfl (fun ls hl => ?_)
              refine lv_lload hx hb dM_wrong_112 (lv_at hl 1 rfl) ?_
              refine lv_ldc2 (v := 2) hx hb hown (hts _ mbM_wrong_8) dM_wrong_114 ?_
              refine lv_lrem hx hb dM_wrong_117 (by decide) ?_
              refine lv_lconst (v := 0) hx hb dM_wrong_118 (by decide) ?_
              refine W.lcmp hx hb dM_wrong_119 ?_
              refine lv_if_eq (tgt := 135) hx hb dM_wrong_120 (by decide) (fun c_58 => ?_) (fun c_58 => ?_)
              · skip
                refine lv_iload_n hx hb dM_wrong_135 rfl (lv_at hl 8 rfl) ?_
                refine lv_if_ne (tgt := 144) hx hb dM_wrong_136 (by decide) (fun c_59 => ?_) (fun c_59 => ?_)
                · skip
                  refine lv_bipush (v := 9) hx hb dM_wrong_144 (by decide) ?_
                  exact W.iret (v := 9) hx hb hr (fun t ht hW => ⟨⟨9, fo, rfl, by simp only [s_M_wrong, if_pos c_1, if_neg c_51, if_neg c_56, if_pos c_58], by rw [ht]; exact hP, va_K.moved hW.alike hK, hD⟩, hS.F ht⟩) hS.2.2 dM_wrong_146
                · exact absurd c_59 c_51
              · skip
                refine lv_lload hx hb dM_wrong_123 (lv_at hl 1 rfl) ?_
                refine lv_ldc2 (v := 1024) hx hb hown (hts _ mbM_wrong_5) dM_wrong_125 ?_
                refine lv_ldiv hx hb dM_wrong_128 (by decide) ?_
                refine lv_lload hx hb dM_wrong_129 (lv_at hl 3 rfl) ?_
                refine W.lcmp hx hb dM_wrong_131 ?_
                refine lv_if_eq (tgt := 147) hx hb dM_wrong_132 (by decide) (fun c_60 => ?_) (fun c_60 => ?_)
                · skip
                  refine lv_iload_n hx hb dM_wrong_147 rfl (lv_at hl 8 rfl) ?_
                  refine lv_iconst (v := 2) hx hb dM_wrong_148 (by decide) ?_
                  refine lv_icmp_ne (tgt := 172) hx hb dM_wrong_149 (by decide) (fun c_61 => ?_) (fun c_61 => ?_)
                  · skip
                    refine lv_aload_n hx hb dM_wrong_172 rfl (lv_at hl 6 rfl) ?_
                    refine lv_iconst (v := 1) hx hb dM_wrong_173 (by decide) ?_
                    have hPc := hP.sub (ws' := [(k0, .inr (2, [.int th, .ref yb, .ref zb, .int a1, .int a2, .int a3, .int a4, .int a5, .int a6, .int fo])), (yb, .inl (cI, 65536, .inl y)), (zb, .inl (cI, 33, .inl z))]) [0, 1, 2] rfl
                    have hKc := hK.sub (tys' := [(cI, .int)]) [0] rfl
                    refine vp_callSi (va_Run.run (va_runV (As := [.int 1]) (rest := []) ⟨hx, hb, hml, hown, hts⟩ (c_M_mode l dC dI k0 yb zb cI y z th a1 a2 a3 a4 a5 a6 fo 1 (by decide)) (cwV 1 hts gM_wrong_M_mode rfl rfl rfl (by decide +kernel) ⟨Nat.le_of_ble_eq_true rfl, Nat.le_of_ble_eq_true rfl⟩) ⟨fun a U g mk q => by obtain ⟨q0, qP, qK⟩ := q; exact ⟨q0, qP, va_K.moved (u := U) (U := U.calling g mk a) (Vm.Alike.refl U.vm) qK⟩, va_recv hKc hPc (ci := 2) (q0 := 0) rfl rfl, fun U hU hW => ⟨rfl, by rw [hU]; exact hPc, va_K.moved hW.alike hKc⟩⟩ rfl rfl hl.1 rfl (lv_room (Nat.le_of_ble_eq_true rfl)) dM_wrong_174 ⟨Nat.le_of_ble_eq_true rfl, Nat.le_of_ble_eq_true rfl⟩)) (fun r_62 hw_63 => ?_)
                    subst hw_63
                    refine lv_if_eq (tgt := 186) hx hb dM_wrong_177 (by decide) (fun c_64 => ?_) (fun c_64 => ?_)
                    · skip
                      refine lv_lconst (v := 1) hx hb dM_wrong_186 (by decide) ?_
                      refine lv_lstore (lv' := [(14, .long 1), (12, .long (((z ((((((v.toInt64 &&& 4294967295) / 1024) - ((v.toInt64 &&& 4294967295) / 1024) / 8 * 8).toInt32) + 16) + 8).toNatClampNeg).toInt64) &&& 4294967295)), (10, .long (((z (((((v.toInt64 &&& 4294967295) / 1024) - ((v.toInt64 &&& 4294967295) / 1024) / 8 * 8).toInt32) + 16).toNatClampNeg).toInt64) &&& 4294967295)), (9, .int (((((v.toInt64 &&& 4294967295) / 1024) - ((v.toInt64 &&& 4294967295) / 1024) / 8 * 8).toInt32) + 16)), (7, .long ((v.toInt64 &&& 4294967295) / 1024)), (5, .long (v.toInt64 &&& 4294967295)), (4, .int 0), (0, .ref k0), (1, .int v), (2, .int how), (3, .int wd)]) hx hb dM_wrong_187 hl (by decide) rfl (fun ls hl => ?_)
                      refine lv_lload hx hb dM_wrong_189 (lv_at hl 1 rfl) ?_
                      refine lv_lload hx hb dM_wrong_191 (lv_at hl 0 rfl) ?_
                      refine lv_ldiv hx hb dM_wrong_193 (by decide) ?_
                      refine lv_ldc2 (v := 2) hx hb hown (hts _ mbM_wrong_8) dM_wrong_194 ?_
                      refine lv_lrem hx hb dM_wrong_197 (by decide) ?_
                      refine lv_lconst (v := 0) hx hb dM_wrong_198 (by decide) ?_
                      refine W.lcmp hx hb dM_wrong_199 ?_
                      refine lv_if_ne (tgt := 213) hx hb dM_wrong_200 (by decide) (fun c_65 => ?_) (fun c_65 => ?_)
                      · skip
                        refine lv_lload hx hb dM_wrong_213 (lv_at hl 1 rfl) ?_
                        refine lv_ldc2 (v := 1024) hx hb hown (hts _ mbM_wrong_5) dM_wrong_215 ?_
                        refine lv_ldiv hx hb dM_wrong_218 (by decide) ?_
                        refine lv_ldc2 (v := 1024) hx hb hown (hts _ mbM_wrong_5) dM_wrong_219 ?_
                        refine lv_lmul hx hb dM_wrong_222 ?_
                        refine lv_lload hx hb dM_wrong_223 (lv_at hl 5 rfl) ?_
                        refine lv_ldc2 (v := 1024) hx hb hown (hts _ mbM_wrong_5) dM_wrong_225 ?_
                        refine lv_lrem hx hb dM_wrong_228 (by decide) ?_
                        refine lv_ladd hx hb dM_wrong_229 ?_
                        refine lv_lstore (lv' := [(5, .long ((((((z ((((((v.toInt64 &&& 4294967295) / 1024) - ((v.toInt64 &&& 4294967295) / 1024) / 8 * 8).toInt32) + 16) + 8).toNatClampNeg).toInt64) &&& 4294967295) / 1024) * 1024) + ((v.toInt64 &&& 4294967295) - (v.toInt64 &&& 4294967295) / 1024 * 1024))), (14, .long 1), (12, .long (((z ((((((v.toInt64 &&& 4294967295) / 1024) - ((v.toInt64 &&& 4294967295) / 1024) / 8 * 8).toInt32) + 16) + 8).toNatClampNeg).toInt64) &&& 4294967295)), (10, .long (((z (((((v.toInt64 &&& 4294967295) / 1024) - ((v.toInt64 &&& 4294967295) / 1024) / 8 * 8).toInt32) + 16).toNatClampNeg).toInt64) &&& 4294967295)), (9, .int (((((v.toInt64 &&& 4294967295) / 1024) - ((v.toInt64 &&& 4294967295) / 1024) / 8 * 8).toInt32) + 16)), (7, .long ((v.toInt64 &&& 4294967295) / 1024)), (4, .int 0), (0, .ref k0), (1, .int v), (2, .int how), (3, .int wd)]) hx hb dM_wrong_230 hl (by decide) rfl (fun ls hl => ?_)
                        refine b_M_wrong hx hb hown hts dC dI k0 yb zb cI y z th a1 a2 a3 a4 a5 a6 fo how ((((((z ((((((v.toInt64 &&& 4294967295) / 1024) - ((v.toInt64 &&& 4294967295) / 1024) / 8 * 8).toInt32) + 16) + 8).toNatClampNeg).toInt64) &&& 4294967295) / 1024) * 1024) + ((v.toInt64 &&& 4294967295) - (v.toInt64 &&& 4294967295) / 1024 * 1024)) hK _ _ ls hP hD hS (lv_sub hl [0, 9, 7] rfl) (fun H locs ls hls hP hD hS => ?_)
                        exact W.iret (v := (s_b232 how ((((((z ((((((v.toInt64 &&& 4294967295) / 1024) - ((v.toInt64 &&& 4294967295) / 1024) / 8 * 8).toInt32) + 16) + 8).toNatClampNeg).toInt64) &&& 4294967295) / 1024) * 1024) + ((v.toInt64 &&& 4294967295) - (v.toInt64 &&& 4294967295) / 1024 * 1024))).1) hx hb hr (fun t ht hW => ⟨⟨(s_b232 how ((((((z ((((((v.toInt64 &&& 4294967295) / 1024) - ((v.toInt64 &&& 4294967295) / 1024) / 8 * 8).toInt32) + 16) + 8).toNatClampNeg).toInt64) &&& 4294967295) / 1024) * 1024) + ((v.toInt64 &&& 4294967295) - (v.toInt64 &&& 4294967295) / 1024 * 1024))).1, ((s_b232 how ((((((z ((((((v.toInt64 &&& 4294967295) / 1024) - ((v.toInt64 &&& 4294967295) / 1024) / 8 * 8).toInt32) + 16) + 8).toNatClampNeg).toInt64) &&& 4294967295) / 1024) * 1024) + ((v.toInt64 &&& 4294967295) - (v.toInt64 &&& 4294967295) / 1024 * 1024))).2), rfl, by simp only [s_M_wrong, if_pos c_1, if_neg c_51, if_neg c_56, if_neg c_58, if_pos c_60, if_neg c_61, if_pos c_64, if_neg c_65], by rw [ht]; exact hP, va_K.moved hW.alike hK, hD⟩, hS.F ht⟩) hS.2.2 dM_wrong_309
                      · skip
                        refine lv_iload_n hx hb dM_wrong_203 rfl (lv_at hl 9 rfl) ?_
                        refine lv_if_ne (tgt := 211) hx hb dM_wrong_204 (by decide) (fun c_66 => ?_) (fun c_66 => ?_)
                        · skip
                          refine lv_iconst (v := 3) hx hb dM_wrong_211 (by decide) ?_
                          exact W.iret (v := 3) hx hb hr (fun t ht hW => ⟨⟨3, fo, rfl, by simp only [s_M_wrong, if_pos c_1, if_neg c_51, if_neg c_56, if_neg c_58, if_pos c_60, if_neg c_61, if_pos c_64, if_pos c_65], by rw [ht]; exact hP, va_K.moved hW.alike hK, hD⟩, hS.F ht⟩) hS.2.2 dM_wrong_212
                        · exact absurd c_66 c_51
                    · skip
                      refine lv_ldc2 (v := 4) hx hb hown (hts _ mbM_wrong_9) dM_wrong_180 ?_
                      refine lv_goto (tgt := 187) hx hb dM_wrong_183 (by decide) ?_
                      refine lv_lstore (lv' := [(14, .long 4), (12, .long (((z ((((((v.toInt64 &&& 4294967295) / 1024) - ((v.toInt64 &&& 4294967295) / 1024) / 8 * 8).toInt32) + 16) + 8).toNatClampNeg).toInt64) &&& 4294967295)), (10, .long (((z (((((v.toInt64 &&& 4294967295) / 1024) - ((v.toInt64 &&& 4294967295) / 1024) / 8 * 8).toInt32) + 16).toNatClampNeg).toInt64) &&& 4294967295)), (9, .int (((((v.toInt64 &&& 4294967295) / 1024) - ((v.toInt64 &&& 4294967295) / 1024) / 8 * 8).toInt32) + 16)), (7, .long ((v.toInt64 &&& 4294967295) / 1024)), (5, .long (v.toInt64 &&& 4294967295)), (4, .int 0), (0, .ref k0), (1, .int v), (2, .int how), (3, .int wd)]) hx hb dM_wrong_187 hl (by decide) rfl (fun ls hl => ?_)
                      refine lv_lload hx hb dM_wrong_189 (lv_at hl 1 rfl) ?_
                      refine lv_lload hx hb dM_wrong_191 (lv_at hl 0 rfl) ?_
                      refine lv_ldiv hx hb dM_wrong_193 (by decide) ?_
                      refine lv_ldc2 (v := 2) hx hb hown (hts _ mbM_wrong_8) dM_wrong_194 ?_
                      refine lv_lrem hx hb dM_wrong_197 (by decide) ?_
                      refine lv_lconst (v := 0) hx hb dM_wrong_198 (by decide) ?_
                      refine W.lcmp hx hb dM_wrong_199 ?_
                      refine lv_if_ne (tgt := 213) hx hb dM_wrong_200 (by decide) (fun c_67 => ?_) (fun c_67 => ?_)
                      · skip
                        refine lv_lload hx hb dM_wrong_213 (lv_at hl 1 rfl) ?_
                        refine lv_ldc2 (v := 1024) hx hb hown (hts _ mbM_wrong_5) dM_wrong_215 ?_
                        refine lv_ldiv hx hb dM_wrong_218 (by decide) ?_
                        refine lv_ldc2 (v := 1024) hx hb hown (hts _ mbM_wrong_5) dM_wrong_219 ?_
                        refine lv_lmul hx hb dM_wrong_222 ?_
                        refine lv_lload hx hb dM_wrong_223 (lv_at hl 5 rfl) ?_
                        refine lv_ldc2 (v := 1024) hx hb hown (hts _ mbM_wrong_5) dM_wrong_225 ?_
                        refine lv_lrem hx hb dM_wrong_228 (by decide) ?_
                        refine lv_ladd hx hb dM_wrong_229 ?_
                        refine lv_lstore (lv' := [(5, .long ((((((z ((((((v.toInt64 &&& 4294967295) / 1024) - ((v.toInt64 &&& 4294967295) / 1024) / 8 * 8).toInt32) + 16) + 8).toNatClampNeg).toInt64) &&& 4294967295) / 1024) * 1024) + ((v.toInt64 &&& 4294967295) - (v.toInt64 &&& 4294967295) / 1024 * 1024))), (14, .long 4), (12, .long (((z ((((((v.toInt64 &&& 4294967295) / 1024) - ((v.toInt64 &&& 4294967295) / 1024) / 8 * 8).toInt32) + 16) + 8).toNatClampNeg).toInt64) &&& 4294967295)), (10, .long (((z (((((v.toInt64 &&& 4294967295) / 1024) - ((v.toInt64 &&& 4294967295) / 1024) / 8 * 8).toInt32) + 16).toNatClampNeg).toInt64) &&& 4294967295)), (9, .int (((((v.toInt64 &&& 4294967295) / 1024) - ((v.toInt64 &&& 4294967295) / 1024) / 8 * 8).toInt32) + 16)), (7, .long ((v.toInt64 &&& 4294967295) / 1024)), (4, .int 0), (0, .ref k0), (1, .int v), (2, .int how), (3, .int wd)]) hx hb dM_wrong_230 hl (by decide) rfl (fun ls hl => ?_)
                        refine b_M_wrong hx hb hown hts dC dI k0 yb zb cI y z th a1 a2 a3 a4 a5 a6 fo how ((((((z ((((((v.toInt64 &&& 4294967295) / 1024) - ((v.toInt64 &&& 4294967295) / 1024) / 8 * 8).toInt32) + 16) + 8).toNatClampNeg).toInt64) &&& 4294967295) / 1024) * 1024) + ((v.toInt64 &&& 4294967295) - (v.toInt64 &&& 4294967295) / 1024 * 1024)) hK _ _ ls hP hD hS (lv_sub hl [0, 9, 7] rfl) (fun H locs ls hls hP hD hS => ?_)
                        exact W.iret (v := (s_b232 how ((((((z ((((((v.toInt64 &&& 4294967295) / 1024) - ((v.toInt64 &&& 4294967295) / 1024) / 8 * 8).toInt32) + 16) + 8).toNatClampNeg).toInt64) &&& 4294967295) / 1024) * 1024) + ((v.toInt64 &&& 4294967295) - (v.toInt64 &&& 4294967295) / 1024 * 1024))).1) hx hb hr (fun t ht hW => ⟨⟨(s_b232 how ((((((z ((((((v.toInt64 &&& 4294967295) / 1024) - ((v.toInt64 &&& 4294967295) / 1024) / 8 * 8).toInt32) + 16) + 8).toNatClampNeg).toInt64) &&& 4294967295) / 1024) * 1024) + ((v.toInt64 &&& 4294967295) - (v.toInt64 &&& 4294967295) / 1024 * 1024))).1, ((s_b232 how ((((((z ((((((v.toInt64 &&& 4294967295) / 1024) - ((v.toInt64 &&& 4294967295) / 1024) / 8 * 8).toInt32) + 16) + 8).toNatClampNeg).toInt64) &&& 4294967295) / 1024) * 1024) + ((v.toInt64 &&& 4294967295) - (v.toInt64 &&& 4294967295) / 1024 * 1024))).2), rfl, by simp only [s_M_wrong, if_pos c_1, if_neg c_51, if_neg c_56, if_neg c_58, if_pos c_60, if_neg c_61, if_neg c_64, if_neg c_67], by rw [ht]; exact hP, va_K.moved hW.alike hK, hD⟩, hS.F ht⟩) hS.2.2 dM_wrong_309
                      · skip
                        refine lv_iload_n hx hb dM_wrong_203 rfl (lv_at hl 9 rfl) ?_
                        refine lv_if_ne (tgt := 211) hx hb dM_wrong_204 (by decide) (fun c_68 => ?_) (fun c_68 => ?_)
                        · skip
                          refine lv_iconst (v := 3) hx hb dM_wrong_211 (by decide) ?_
                          exact W.iret (v := 3) hx hb hr (fun t ht hW => ⟨⟨3, fo, rfl, by simp only [s_M_wrong, if_pos c_1, if_neg c_51, if_neg c_56, if_neg c_58, if_pos c_60, if_neg c_61, if_neg c_64, if_pos c_67], by rw [ht]; exact hP, va_K.moved hW.alike hK, hD⟩, hS.F ht⟩) hS.2.2 dM_wrong_212
                        · exact absurd c_68 c_51
                  · skip
                    refine lv_aload_n hx hb dM_wrong_152 rfl (lv_at hl 6 rfl) ?_
                    refine lv_iconst (v := 1) hx hb dM_wrong_153 (by decide) ?_
                    have hPc := hP.sub (ws' := [(k0, .inr (2, [.int th, .ref yb, .ref zb, .int a1, .int a2, .int a3, .int a4, .int a5, .int a6, .int fo])), (yb, .inl (cI, 65536, .inl y)), (zb, .inl (cI, 33, .inl z))]) [0, 1, 2] rfl
                    have hKc := hK.sub (tys' := [(cI, .int)]) [0] rfl
                    refine vp_callSi (va_Run.run (va_runV (As := [.int 1]) (rest := []) ⟨hx, hb, hml, hown, hts⟩ (c_M_mode l dC dI k0 yb zb cI y z th a1 a2 a3 a4 a5 a6 fo 1 (by decide)) (cwV 1 hts gM_wrong_M_mode rfl rfl rfl (by decide +kernel) ⟨Nat.le_of_ble_eq_true rfl, Nat.le_of_ble_eq_true rfl⟩) ⟨fun a U g mk q => by obtain ⟨q0, qP, qK⟩ := q; exact ⟨q0, qP, va_K.moved (u := U) (U := U.calling g mk a) (Vm.Alike.refl U.vm) qK⟩, va_recv hKc hPc (ci := 2) (q0 := 0) rfl rfl, fun U hU hW => ⟨rfl, by rw [hU]; exact hPc, va_K.moved hW.alike hKc⟩⟩ rfl rfl hl.1 rfl (lv_room (Nat.le_of_ble_eq_true rfl)) dM_wrong_154 ⟨Nat.le_of_ble_eq_true rfl, Nat.le_of_ble_eq_true rfl⟩)) (fun r_69 hw_70 => ?_)
                    subst hw_70
                    refine lv_if_eq (tgt := 166) hx hb dM_wrong_157 (by decide) (fun c_71 => ?_) (fun c_71 => ?_)
                    · skip
                      refine lv_ldc2 (v := 2) hx hb hown (hts _ mbM_wrong_8) dM_wrong_166 ?_
                      refine lv_goto (tgt := 187) hx hb dM_wrong_169 (by decide) ?_
                      refine lv_lstore (lv' := [(14, .long 2), (12, .long (((z ((((((v.toInt64 &&& 4294967295) / 1024) - ((v.toInt64 &&& 4294967295) / 1024) / 8 * 8).toInt32) + 16) + 8).toNatClampNeg).toInt64) &&& 4294967295)), (10, .long (((z (((((v.toInt64 &&& 4294967295) / 1024) - ((v.toInt64 &&& 4294967295) / 1024) / 8 * 8).toInt32) + 16).toNatClampNeg).toInt64) &&& 4294967295)), (9, .int (((((v.toInt64 &&& 4294967295) / 1024) - ((v.toInt64 &&& 4294967295) / 1024) / 8 * 8).toInt32) + 16)), (7, .long ((v.toInt64 &&& 4294967295) / 1024)), (5, .long (v.toInt64 &&& 4294967295)), (4, .int 0), (0, .ref k0), (1, .int v), (2, .int how), (3, .int wd)]) hx hb dM_wrong_187 hl (by decide) rfl (fun ls hl => ?_)
                      refine lv_lload hx hb dM_wrong_189 (lv_at hl 1 rfl) ?_
                      refine lv_lload hx hb dM_wrong_191 (lv_at hl 0 rfl) ?_
                      refine lv_ldiv hx hb dM_wrong_193 (by decide) ?_
                      refine lv_ldc2 (v := 2) hx hb hown (hts _ mbM_wrong_8) dM_wrong_194 ?_
                      refine lv_lrem hx hb dM_wrong_197 (by decide) ?_
                      refine lv_lconst (v := 0) hx hb dM_wrong_198 (by decide) ?_
                      refine W.lcmp hx hb dM_wrong_199 ?_
                      refine lv_if_ne (tgt := 213) hx hb dM_wrong_200 (by decide) (fun c_72 => ?_) (fun c_72 => ?_)
                      · skip
                        refine lv_lload hx hb dM_wrong_213 (lv_at hl 1 rfl) ?_
                        refine lv_ldc2 (v := 1024) hx hb hown (hts _ mbM_wrong_5) dM_wrong_215 ?_
                        refine lv_ldiv hx hb dM_wrong_218 (by decide) ?_
                        refine lv_ldc2 (v := 1024) hx hb hown (hts _ mbM_wrong_5) dM_wrong_219 ?_
                        refine lv_lmul hx hb dM_wrong_222 ?_
                        refine lv_lload hx hb dM_wrong_223 (lv_at hl 5 rfl) ?_
                        refine lv_ldc2 (v := 1024) hx hb hown (hts _ mbM_wrong_5) dM_wrong_225 ?_
                        refine lv_lrem hx hb dM_wrong_228 (by decide) ?_
                        refine lv_ladd hx hb dM_wrong_229 ?_
                        refine lv_lstore (lv' := [(5, .long ((((((z ((((((v.toInt64 &&& 4294967295) / 1024) - ((v.toInt64 &&& 4294967295) / 1024) / 8 * 8).toInt32) + 16) + 8).toNatClampNeg).toInt64) &&& 4294967295) / 1024) * 1024) + ((v.toInt64 &&& 4294967295) - (v.toInt64 &&& 4294967295) / 1024 * 1024))), (14, .long 2), (12, .long (((z ((((((v.toInt64 &&& 4294967295) / 1024) - ((v.toInt64 &&& 4294967295) / 1024) / 8 * 8).toInt32) + 16) + 8).toNatClampNeg).toInt64) &&& 4294967295)), (10, .long (((z (((((v.toInt64 &&& 4294967295) / 1024) - ((v.toInt64 &&& 4294967295) / 1024) / 8 * 8).toInt32) + 16).toNatClampNeg).toInt64) &&& 4294967295)), (9, .int (((((v.toInt64 &&& 4294967295) / 1024) - ((v.toInt64 &&& 4294967295) / 1024) / 8 * 8).toInt32) + 16)), (7, .long ((v.toInt64 &&& 4294967295) / 1024)), (4, .int 0), (0, .ref k0), (1, .int v), (2, .int how), (3, .int wd)]) hx hb dM_wrong_230 hl (by decide) rfl (fun ls hl => ?_)
                        refine b_M_wrong hx hb hown hts dC dI k0 yb zb cI y z th a1 a2 a3 a4 a5 a6 fo how ((((((z ((((((v.toInt64 &&& 4294967295) / 1024) - ((v.toInt64 &&& 4294967295) / 1024) / 8 * 8).toInt32) + 16) + 8).toNatClampNeg).toInt64) &&& 4294967295) / 1024) * 1024) + ((v.toInt64 &&& 4294967295) - (v.toInt64 &&& 4294967295) / 1024 * 1024)) hK _ _ ls hP hD hS (lv_sub hl [0, 9, 7] rfl) (fun H locs ls hls hP hD hS => ?_)
                        exact W.iret (v := (s_b232 how ((((((z ((((((v.toInt64 &&& 4294967295) / 1024) - ((v.toInt64 &&& 4294967295) / 1024) / 8 * 8).toInt32) + 16) + 8).toNatClampNeg).toInt64) &&& 4294967295) / 1024) * 1024) + ((v.toInt64 &&& 4294967295) - (v.toInt64 &&& 4294967295) / 1024 * 1024))).1) hx hb hr (fun t ht hW => ⟨⟨(s_b232 how ((((((z ((((((v.toInt64 &&& 4294967295) / 1024) - ((v.toInt64 &&& 4294967295) / 1024) / 8 * 8).toInt32) + 16) + 8).toNatClampNeg).toInt64) &&& 4294967295) / 1024) * 1024) + ((v.toInt64 &&& 4294967295) - (v.toInt64 &&& 4294967295) / 1024 * 1024))).1, ((s_b232 how ((((((z ((((((v.toInt64 &&& 4294967295) / 1024) - ((v.toInt64 &&& 4294967295) / 1024) / 8 * 8).toInt32) + 16) + 8).toNatClampNeg).toInt64) &&& 4294967295) / 1024) * 1024) + ((v.toInt64 &&& 4294967295) - (v.toInt64 &&& 4294967295) / 1024 * 1024))).2), rfl, by simp only [s_M_wrong, if_pos c_1, if_neg c_51, if_neg c_56, if_neg c_58, if_pos c_60, if_pos c_61, if_pos c_71, if_neg c_72], by rw [ht]; exact hP, va_K.moved hW.alike hK, hD⟩, hS.F ht⟩) hS.2.2 dM_wrong_309
                      · skip
                        refine lv_iload_n hx hb dM_wrong_203 rfl (lv_at hl 9 rfl) ?_
                        refine lv_if_ne (tgt := 211) hx hb dM_wrong_204 (by decide) (fun c_73 => ?_) (fun c_73 => ?_)
                        · skip
                          refine lv_iconst (v := 3) hx hb dM_wrong_211 (by decide) ?_
                          exact W.iret (v := 3) hx hb hr (fun t ht hW => ⟨⟨3, fo, rfl, by simp only [s_M_wrong, if_pos c_1, if_neg c_51, if_neg c_56, if_neg c_58, if_pos c_60, if_pos c_61, if_pos c_71, if_pos c_72], by rw [ht]; exact hP, va_K.moved hW.alike hK, hD⟩, hS.F ht⟩) hS.2.2 dM_wrong_212
                        · exact absurd c_73 c_51
                    · skip
                      refine lv_ldc2 (v := 8) hx hb hown (hts _ mbM_wrong_6) dM_wrong_160 ?_
                      refine lv_goto (tgt := 187) hx hb dM_wrong_163 (by decide) ?_
                      refine lv_lstore (lv' := [(14, .long 8), (12, .long (((z ((((((v.toInt64 &&& 4294967295) / 1024) - ((v.toInt64 &&& 4294967295) / 1024) / 8 * 8).toInt32) + 16) + 8).toNatClampNeg).toInt64) &&& 4294967295)), (10, .long (((z (((((v.toInt64 &&& 4294967295) / 1024) - ((v.toInt64 &&& 4294967295) / 1024) / 8 * 8).toInt32) + 16).toNatClampNeg).toInt64) &&& 4294967295)), (9, .int (((((v.toInt64 &&& 4294967295) / 1024) - ((v.toInt64 &&& 4294967295) / 1024) / 8 * 8).toInt32) + 16)), (7, .long ((v.toInt64 &&& 4294967295) / 1024)), (5, .long (v.toInt64 &&& 4294967295)), (4, .int 0), (0, .ref k0), (1, .int v), (2, .int how), (3, .int wd)]) hx hb dM_wrong_187 hl (by decide) rfl (fun ls hl => ?_)
                      refine lv_lload hx hb dM_wrong_189 (lv_at hl 1 rfl) ?_
                      refine lv_lload hx hb dM_wrong_191 (lv_at hl 0 rfl) ?_
                      refine lv_ldiv hx hb dM_wrong_193 (by decide) ?_
                      refine lv_ldc2 (v := 2) hx hb hown (hts _ mbM_wrong_8) dM_wrong_194 ?_
                      refine lv_lrem hx hb dM_wrong_197 (by decide) ?_
                      refine lv_lconst (v := 0) hx hb dM_wrong_198 (by decide) ?_
                      refine W.lcmp hx hb dM_wrong_199 ?_
                      refine lv_if_ne (tgt := 213) hx hb dM_wrong_200 (by decide) (fun c_74 => ?_) (fun c_74 => ?_)
                      · skip
                        refine lv_lload hx hb dM_wrong_213 (lv_at hl 1 rfl) ?_
                        refine lv_ldc2 (v := 1024) hx hb hown (hts _ mbM_wrong_5) dM_wrong_215 ?_
                        refine lv_ldiv hx hb dM_wrong_218 (by decide) ?_
                        refine lv_ldc2 (v := 1024) hx hb hown (hts _ mbM_wrong_5) dM_wrong_219 ?_
                        refine lv_lmul hx hb dM_wrong_222 ?_
                        refine lv_lload hx hb dM_wrong_223 (lv_at hl 5 rfl) ?_
                        refine lv_ldc2 (v := 1024) hx hb hown (hts _ mbM_wrong_5) dM_wrong_225 ?_
                        refine lv_lrem hx hb dM_wrong_228 (by decide) ?_
                        refine lv_ladd hx hb dM_wrong_229 ?_
                        refine lv_lstore (lv' := [(5, .long ((((((z ((((((v.toInt64 &&& 4294967295) / 1024) - ((v.toInt64 &&& 4294967295) / 1024) / 8 * 8).toInt32) + 16) + 8).toNatClampNeg).toInt64) &&& 4294967295) / 1024) * 1024) + ((v.toInt64 &&& 4294967295) - (v.toInt64 &&& 4294967295) / 1024 * 1024))), (14, .long 8), (12, .long (((z ((((((v.toInt64 &&& 4294967295) / 1024) - ((v.toInt64 &&& 4294967295) / 1024) / 8 * 8).toInt32) + 16) + 8).toNatClampNeg).toInt64) &&& 4294967295)), (10, .long (((z (((((v.toInt64 &&& 4294967295) / 1024) - ((v.toInt64 &&& 4294967295) / 1024) / 8 * 8).toInt32) + 16).toNatClampNeg).toInt64) &&& 4294967295)), (9, .int (((((v.toInt64 &&& 4294967295) / 1024) - ((v.toInt64 &&& 4294967295) / 1024) / 8 * 8).toInt32) + 16)), (7, .long ((v.toInt64 &&& 4294967295) / 1024)), (4, .int 0), (0, .ref k0), (1, .int v), (2, .int how), (3, .int wd)]) hx hb dM_wrong_230 hl (by decide) rfl (fun ls hl => ?_)
                        refine b_M_wrong hx hb hown hts dC dI k0 yb zb cI y z th a1 a2 a3 a4 a5 a6 fo how ((((((z ((((((v.toInt64 &&& 4294967295) / 1024) - ((v.toInt64 &&& 4294967295) / 1024) / 8 * 8).toInt32) + 16) + 8).toNatClampNeg).toInt64) &&& 4294967295) / 1024) * 1024) + ((v.toInt64 &&& 4294967295) - (v.toInt64 &&& 4294967295) / 1024 * 1024)) hK _ _ ls hP hD hS (lv_sub hl [0, 9, 7] rfl) (fun H locs ls hls hP hD hS => ?_)
                        exact W.iret (v := (s_b232 how ((((((z ((((((v.toInt64 &&& 4294967295) / 1024) - ((v.toInt64 &&& 4294967295) / 1024) / 8 * 8).toInt32) + 16) + 8).toNatClampNeg).toInt64) &&& 4294967295) / 1024) * 1024) + ((v.toInt64 &&& 4294967295) - (v.toInt64 &&& 4294967295) / 1024 * 1024))).1) hx hb hr (fun t ht hW => ⟨⟨(s_b232 how ((((((z ((((((v.toInt64 &&& 4294967295) / 1024) - ((v.toInt64 &&& 4294967295) / 1024) / 8 * 8).toInt32) + 16) + 8).toNatClampNeg).toInt64) &&& 4294967295) / 1024) * 1024) + ((v.toInt64 &&& 4294967295) - (v.toInt64 &&& 4294967295) / 1024 * 1024))).1, ((s_b232 how ((((((z ((((((v.toInt64 &&& 4294967295) / 1024) - ((v.toInt64 &&& 4294967295) / 1024) / 8 * 8).toInt32) + 16) + 8).toNatClampNeg).toInt64) &&& 4294967295) / 1024) * 1024) + ((v.toInt64 &&& 4294967295) - (v.toInt64 &&& 4294967295) / 1024 * 1024))).2), rfl, by simp only [s_M_wrong, if_pos c_1, if_neg c_51, if_neg c_56, if_neg c_58, if_pos c_60, if_pos c_61, if_neg c_71, if_neg c_74], by rw [ht]; exact hP, va_K.moved hW.alike hK, hD⟩, hS.F ht⟩) hS.2.2 dM_wrong_309
                      · skip
                        refine lv_iload_n hx hb dM_wrong_203 rfl (lv_at hl 9 rfl) ?_
                        refine lv_if_ne (tgt := 211) hx hb dM_wrong_204 (by decide) (fun c_75 => ?_) (fun c_75 => ?_)
                        · skip
                          refine lv_iconst (v := 3) hx hb dM_wrong_211 (by decide) ?_
                          exact W.iret (v := 3) hx hb hr (fun t ht hW => ⟨⟨3, fo, rfl, by simp only [s_M_wrong, if_pos c_1, if_neg c_51, if_neg c_56, if_neg c_58, if_pos c_60, if_pos c_61, if_neg c_71, if_pos c_74], by rw [ht]; exact hP, va_K.moved hW.alike hK, hD⟩, hS.F ht⟩) hS.2.2 dM_wrong_212
                        · exact absurd c_75 c_51
                · skip
                  refine lv_iload_n hx hb dM_wrong_135 rfl (lv_at hl 8 rfl) ?_
                  refine lv_if_ne (tgt := 144) hx hb dM_wrong_136 (by decide) (fun c_76 => ?_) (fun c_76 => ?_)
                  · skip
                    refine lv_bipush (v := 9) hx hb dM_wrong_144 (by decide) ?_
                    exact W.iret (v := 9) hx hb hr (fun t ht hW => ⟨⟨9, fo, rfl, by simp only [s_M_wrong, if_pos c_1, if_neg c_51, if_neg c_56, if_neg c_58, if_neg c_60], by rw [ht]; exact hP, va_K.moved hW.alike hK, hD⟩, hS.F ht⟩) hS.2.2 dM_wrong_146
                  · exact absurd c_76 c_51
            · exact absurd c_57 c_51
        · exact absurd c_53 c_51
      · exact absurd c_52 (by decide)
    · skip
      refine lv_iconst (v := 1) hx hb dM_wrong_8 (by decide) ?_
      refine lv_goto (tgt := 13) hx hb dM_wrong_9 (by decide) ?_
      refine lv_istore (lv' := [(4, .int 1), (0, .ref k0), (1, .int v), (2, .int how), (3, .int wd)]) hx hb dM_wrong_13 hl (by decide) rfl (fun ls hl => ?_)
      refine lv_iload hx hb dM_wrong_15 (lv_at hl 0 rfl) ?_
      refine lv_if_eq (tgt := 29) hx hb dM_wrong_17 (by decide) (fun c_77 => ?_) (fun c_77 => ?_)
      · exact absurd c_77 (by decide)
      · skip
        refine lv_iload_n hx hb dM_wrong_20 rfl (lv_at hl 2 rfl) ?_
        refine lv_iconst (v := 3) hx hb dM_wrong_21 (by decide) ?_
        refine lv_iand hx hb dM_wrong_22 ?_
        refine lv_if_eq (tgt := 29) hx hb dM_wrong_23 (by decide) (fun c_78 => ?_) (fun c_78 => ?_)
        · skip
          refine lv_iload_n hx hb dM_wrong_29 rfl (lv_at hl 2 rfl) ?_
          refine lv_i2l (v := v.toInt64) hx hb dM_wrong_30 rfl ?_
          refine lv_ldc2 (v := 4294967295) hx hb hown (hts _ mbM_wrong_4) dM_wrong_31 ?_
          refine lv_land hx hb dM_wrong_34 ?_
          refine lv_lstore (lv' := [(5, .long (v.toInt64 &&& 4294967295)), (4, .int 1), (0, .ref k0), (1, .int v), (2, .int how), (3, .int wd)]) hx hb dM_wrong_35 hl (by decide) rfl (fun ls hl => ?_)
          refine lv_aload_n hx hb dM_wrong_37 rfl (lv_at hl 2 rfl) ?_
          refine lv_iload_n hx hb dM_wrong_38 rfl (lv_at hl 4 rfl) ?_
          refine lv_if_ne (tgt := 46) hx hb dM_wrong_39 (by decide) (fun c_79 => ?_) (fun c_79 => ?_)
          · exact absurd c_51 c_79
          · skip
            refine lv_iconst (v := 2) hx hb dM_wrong_42 (by decide) ?_
            refine lv_goto (tgt := 47) hx hb dM_wrong_43 (by decide) ?_
            have hPc := hP.sub (ws' := [(k0, .inr (2, [.int th, .ref yb, .ref zb, .int a1, .int a2, .int a3, .int a4, .int a5, .int a6, .int fo])), (yb, .inl (cI, 65536, .inl y)), (zb, .inl (cI, 33, .inl z))]) [0, 1, 2] rfl
            have hKc := hK.sub (tys' := [(cI, .int)]) [0] rfl
            refine vp_callSi (va_Run.run (va_runV (As := [.int 2]) (rest := []) ⟨hx, hb, hml, hown, hts⟩ (c_M_mode l dC dI k0 yb zb cI y z th a1 a2 a3 a4 a5 a6 fo 2 (by decide)) (cwV 1 hts gM_wrong_M_mode rfl rfl rfl (by decide +kernel) ⟨Nat.le_of_ble_eq_true rfl, Nat.le_of_ble_eq_true rfl⟩) ⟨fun a U g mk q => by obtain ⟨q0, qP, qK⟩ := q; exact ⟨q0, qP, va_K.moved (u := U) (U := U.calling g mk a) (Vm.Alike.refl U.vm) qK⟩, va_recv hKc hPc (ci := 2) (q0 := 0) rfl rfl, fun U hU hW => ⟨rfl, by rw [hU]; exact hPc, va_K.moved hW.alike hKc⟩⟩ rfl rfl hl.1 rfl (lv_room (Nat.le_of_ble_eq_true rfl)) dM_wrong_47 ⟨Nat.le_of_ble_eq_true rfl, Nat.le_of_ble_eq_true rfl⟩)) (fun r_80 hw_81 => ?_)
            subst hw_81
            refine lv_if_eq (tgt := 232) hx hb dM_wrong_50 (by decide) (fun c_82 => ?_) (fun c_82 => ?_)
            · skip
              refine b_M_wrong hx hb hown hts dC dI k0 yb zb cI y z th a1 a2 a3 a4 a5 a6 fo how (v.toInt64 &&& 4294967295) hK _ _ ls hP hD hS (lv_sub hl [0, 4, 2] rfl) (fun H locs ls hls hP hD hS => ?_)
              exact W.iret (v := (s_b232 how (v.toInt64 &&& 4294967295)).1) hx hb hr (fun t ht hW => ⟨⟨(s_b232 how (v.toInt64 &&& 4294967295)).1, ((s_b232 how (v.toInt64 &&& 4294967295)).2), rfl, by simp only [s_M_wrong, if_pos c_1, if_pos c_51, if_pos c_78, if_pos c_82], by rw [ht]; exact hP, va_K.moved hW.alike hK, hD⟩, hS.F ht⟩) hS.2.2 dM_wrong_309
            · skip
              refine lv_lload hx hb dM_wrong_53 (lv_at hl 0 rfl) ?_
              refine lv_ldc2 (v := 1024) hx hb hown (hts _ mbM_wrong_5) dM_wrong_55 ?_
              refine lv_ldiv hx hb dM_wrong_58 (by decide) ?_
              refine lv_lstore (lv' := [(7, .long ((v.toInt64 &&& 4294967295) / 1024)), (5, .long (v.toInt64 &&& 4294967295)), (4, .int 1), (0, .ref k0), (1, .int v), (2, .int how), (3, .int wd)]) hx hb dM_wrong_59 hl (by decide) rfl (fun ls hl => ?_)
              refine lv_lload hx hb dM_wrong_61 (lv_at hl 0 rfl) ?_
              refine lv_ldc2 (v := 8) hx hb hown (hts _ mbM_wrong_6) dM_wrong_63 ?_
              refine lv_lrem hx hb dM_wrong_66 (by decide) ?_
              refine lv_l2i (v := (((v.toInt64 &&& 4294967295) / 1024) - ((v.toInt64 &&& 4294967295) / 1024) / 8 * 8).toInt32) hx hb dM_wrong_67 rfl ?_
              refine lv_iload_n hx hb dM_wrong_68 rfl (lv_at hl 5 rfl) ?_
              refine lv_if_ne (tgt := 76) hx hb dM_wrong_69 (by decide) (fun c_83 => ?_) (fun c_83 => ?_)
              · exact absurd c_51 c_83
              · skip
                refine lv_iconst (v := 0) hx hb dM_wrong_72 (by decide) ?_
                refine lv_goto (tgt := 78) hx hb dM_wrong_73 (by decide) ?_
                refine lv_iadd hx hb dM_wrong_78 ?_
                refine lv_istore (lv' := [(9, .int (((((v.toInt64 &&& 4294967295) / 1024) - ((v.toInt64 &&& 4294967295) / 1024) / 8 * 8).toInt32) + 0)), (7, .long ((v.toInt64 &&& 4294967295) / 1024)), (5, .long (v.toInt64 &&& 4294967295)), (4, .int 1), (0, .ref k0), (1, .int v), (2, .int how), (3, .int wd)]) hx hb dM_wrong_79 hl (by decide) rfl (fun ls hl => ?_)
                refine lv_aload_n hx hb dM_wrong_81 rfl (lv_at hl 4 rfl) ?_
                refine va_get (D := (dC, dI)) (ci := 2) (v := .ref zb) (C := RX2) (T := TX2) (N := 10) hx hb hts miM_wrong_X2 hown hK hP 0 rfl rfl 2 (by decide) (hts _ mbM_wrong_7) (fun _ h9 => h9) rfl dM_wrong_82 ?_
                refine lv_iload hx hb dM_wrong_85 (lv_at hl 0 rfl) ?_
                refine va_iald hx hb hK hP 2 0 rfl rfl (in_w v 0 (by decide) _ rfl) dM_wrong_87 ?_
                refine lv_i2l (v := (z (((((v.toInt64 &&& 4294967295) / 1024) - ((v.toInt64 &&& 4294967295) / 1024) / 8 * 8).toInt32) + 0).toNatClampNeg).toInt64) hx hb dM_wrong_88 rfl ?_
                refine lv_ldc2 (v := 4294967295) hx hb hown (hts _ mbM_wrong_4) dM_wrong_89 ?_
                refine lv_land hx hb dM_wrong_92 ?_
                refine lv_lstore (lv' := [(10, .long (((z (((((v.toInt64 &&& 4294967295) / 1024) - ((v.toInt64 &&& 4294967295) / 1024) / 8 * 8).toInt32) + 0).toNatClampNeg).toInt64) &&& 4294967295)), (9, .int (((((v.toInt64 &&& 4294967295) / 1024) - ((v.toInt64 &&& 4294967295) / 1024) / 8 * 8).toInt32) + 0)), (7, .long ((v.toInt64 &&& 4294967295) / 1024)), (5, .long (v.toInt64 &&& 4294967295)), (4, .int 1), (0, .ref k0), (1, .int v), (2, .int how), (3, .int wd)]) hx hb dM_wrong_93 hl (by decide) rfl (fun ls hl => ?_)
                refine lv_aload_n hx hb dM_wrong_95 rfl (lv_at hl 5 rfl) ?_
                refine va_get (D := (dC, dI)) (ci := 2) (v := .ref zb) (C := RX2) (T := TX2) (N := 10) hx hb hts miM_wrong_X2 hown hK hP 0 rfl rfl 2 (by decide) (hts _ mbM_wrong_7) (fun _ h9 => h9) rfl dM_wrong_96 ?_
                refine lv_iload hx hb dM_wrong_99 (lv_at hl 1 rfl) ?_
                refine lv_bipush (v := 8) hx hb dM_wrong_101 (by decide) ?_
                refine lv_iadd hx hb dM_wrong_103 ?_
                refine va_iald hx hb hK hP 2 0 rfl rfl (in_w8 v 0 (by decide) _ rfl) dM_wrong_104 ?_
                refine lv_i2l (v := (z ((((((v.toInt64 &&& 4294967295) / 1024) - ((v.toInt64 &&& 4294967295) / 1024) / 8 * 8).toInt32) + 0) + 8).toNatClampNeg).toInt64) hx hb dM_wrong_105 rfl ?_
                refine lv_ldc2 (v := 4294967295) hx hb hown (hts _ mbM_wrong_4) dM_wrong_106 ?_
                refine lv_land hx hb dM_wrong_109 ?_
                refine lv_lstore (lv' := [(12, .long (((z ((((((v.toInt64 &&& 4294967295) / 1024) - ((v.toInt64 &&& 4294967295) / 1024) / 8 * 8).toInt32) + 0) + 8).toNatClampNeg).toInt64) &&& 4294967295)), (10, .long (((z (((((v.toInt64 &&& 4294967295) / 1024) - ((v.toInt64 &&& 4294967295) / 1024) / 8 * 8).toInt32) + 0).toNatClampNeg).toInt64) &&& 4294967295)), (9, .int (((((v.toInt64 &&& 4294967295) / 1024) - ((v.toInt64 &&& 4294967295) / 1024) / 8 * 8).toInt32) + 0)), (7, .long ((v.toInt64 &&& 4294967295) / 1024)), (5, .long (v.toInt64 &&& 4294967295)), (4, .int 1), (0, .ref k0), (1, .int v), (2, .int how), (3, .int wd)]) hx hb dM_wrong_110 hl (by decide) rfl (fun ls hl => ?_)
                refine lv_lload hx hb dM_wrong_112 (lv_at hl 1 rfl) ?_
                refine lv_ldc2 (v := 2) hx hb hown (hts _ mbM_wrong_8) dM_wrong_114 ?_
                refine lv_lrem hx hb dM_wrong_117 (by decide) ?_
                refine lv_lconst (v := 0) hx hb dM_wrong_118 (by decide) ?_
                refine W.lcmp hx hb dM_wrong_119 ?_
                refine lv_if_eq (tgt := 135) hx hb dM_wrong_120 (by decide) (fun c_84 => ?_) (fun c_84 => ?_)
                · skip
                  refine lv_iload_n hx hb dM_wrong_135 rfl (lv_at hl 8 rfl) ?_
                  refine lv_if_ne (tgt := 144) hx hb dM_wrong_136 (by decide) (fun c_85 => ?_) (fun c_85 => ?_)
                  · exact absurd c_51 c_85
                  · skip
                    refine lv_bipush (v := 10) hx hb dM_wrong_139 (by decide) ?_
                    refine lv_goto (tgt := 146) hx hb dM_wrong_141 (by decide) ?_
                    exact W.iret (v := 10) hx hb hr (fun t ht hW => ⟨⟨10, fo, rfl, by simp only [s_M_wrong, if_pos c_1, if_pos c_51, if_pos c_78, if_neg c_82, if_pos c_84], by rw [ht]; exact hP, va_K.moved hW.alike hK, hD⟩, hS.F ht⟩) hS.2.2 dM_wrong_146
                · skip
                  refine lv_lload hx hb dM_wrong_123 (lv_at hl 1 rfl) ?_
                  refine lv_ldc2 (v := 1024) hx hb hown (hts _ mbM_wrong_5) dM_wrong_125 ?_
                  refine lv_ldiv hx hb dM_wrong_128 (by decide) ?_
                  refine lv_lload hx hb dM_wrong_129 (lv_at hl 3 rfl) ?_
                  refine W.lcmp hx hb dM_wrong_131 ?_
                  refine lv_if_eq (tgt := 147) hx hb dM_wrong_132 (by decide) (fun c_86 => ?_) (fun c_86 => ?_)
                  · skip
                    refine lv_iload_n hx hb dM_wrong_147 rfl (lv_at hl 8 rfl) ?_
                    refine lv_iconst (v := 2) hx hb dM_wrong_148 (by decide) ?_
                    refine lv_icmp_ne (tgt := 172) hx hb dM_wrong_149 (by decide) (fun c_87 => ?_) (fun c_87 => ?_)
                    · skip
                      refine lv_aload_n hx hb dM_wrong_172 rfl (lv_at hl 6 rfl) ?_
                      refine lv_iconst (v := 1) hx hb dM_wrong_173 (by decide) ?_
                      have hPc := hP.sub (ws' := [(k0, .inr (2, [.int th, .ref yb, .ref zb, .int a1, .int a2, .int a3, .int a4, .int a5, .int a6, .int fo])), (yb, .inl (cI, 65536, .inl y)), (zb, .inl (cI, 33, .inl z))]) [0, 1, 2] rfl
                      have hKc := hK.sub (tys' := [(cI, .int)]) [0] rfl
                      refine vp_callSi (va_Run.run (va_runV (As := [.int 1]) (rest := []) ⟨hx, hb, hml, hown, hts⟩ (c_M_mode l dC dI k0 yb zb cI y z th a1 a2 a3 a4 a5 a6 fo 1 (by decide)) (cwV 1 hts gM_wrong_M_mode rfl rfl rfl (by decide +kernel) ⟨Nat.le_of_ble_eq_true rfl, Nat.le_of_ble_eq_true rfl⟩) ⟨fun a U g mk q => by obtain ⟨q0, qP, qK⟩ := q; exact ⟨q0, qP, va_K.moved (u := U) (U := U.calling g mk a) (Vm.Alike.refl U.vm) qK⟩, va_recv hKc hPc (ci := 2) (q0 := 0) rfl rfl, fun U hU hW => ⟨rfl, by rw [hU]; exact hPc, va_K.moved hW.alike hKc⟩⟩ rfl rfl hl.1 rfl (lv_room (Nat.le_of_ble_eq_true rfl)) dM_wrong_174 ⟨Nat.le_of_ble_eq_true rfl, Nat.le_of_ble_eq_true rfl⟩)) (fun r_88 hw_89 => ?_)
                      subst hw_89
                      refine lv_if_eq (tgt := 186) hx hb dM_wrong_177 (by decide) (fun c_90 => ?_) (fun c_90 => ?_)
                      · skip
                        refine lv_lconst (v := 1) hx hb dM_wrong_186 (by decide) ?_
                        refine lv_lstore (lv' := [(14, .long 1), (12, .long (((z ((((((v.toInt64 &&& 4294967295) / 1024) - ((v.toInt64 &&& 4294967295) / 1024) / 8 * 8).toInt32) + 0) + 8).toNatClampNeg).toInt64) &&& 4294967295)), (10, .long (((z (((((v.toInt64 &&& 4294967295) / 1024) - ((v.toInt64 &&& 4294967295) / 1024) / 8 * 8).toInt32) + 0).toNatClampNeg).toInt64) &&& 4294967295)), (9, .int (((((v.toInt64 &&& 4294967295) / 1024) - ((v.toInt64 &&& 4294967295) / 1024) / 8 * 8).toInt32) + 0)), (7, .long ((v.toInt64 &&& 4294967295) / 1024)), (5, .long (v.toInt64 &&& 4294967295)), (4, .int 1), (0, .ref k0), (1, .int v), (2, .int how), (3, .int wd)]) hx hb dM_wrong_187 hl (by decide) rfl (fun ls hl => ?_)
                        refine lv_lload hx hb dM_wrong_189 (lv_at hl 1 rfl) ?_
                        refine lv_lload hx hb dM_wrong_191 (lv_at hl 0 rfl) ?_
                        refine lv_ldiv hx hb dM_wrong_193 (by decide) ?_
                        refine lv_ldc2 (v := 2) hx hb hown (hts _ mbM_wrong_8) dM_wrong_194 ?_
                        refine lv_lrem hx hb dM_wrong_197 (by decide) ?_
                        refine lv_lconst (v := 0) hx hb dM_wrong_198 (by decide) ?_
                        refine W.lcmp hx hb dM_wrong_199 ?_
                        refine lv_if_ne (tgt := 213) hx hb dM_wrong_200 (by decide) (fun c_91 => ?_) (fun c_91 => ?_)
                        · skip
                          refine lv_lload hx hb dM_wrong_213 (lv_at hl 1 rfl) ?_
                          refine lv_ldc2 (v := 1024) hx hb hown (hts _ mbM_wrong_5) dM_wrong_215 ?_
                          refine lv_ldiv hx hb dM_wrong_218 (by decide) ?_
                          refine lv_ldc2 (v := 1024) hx hb hown (hts _ mbM_wrong_5) dM_wrong_219 ?_
                          refine lv_lmul hx hb dM_wrong_222 ?_
                          refine lv_lload hx hb dM_wrong_223 (lv_at hl 5 rfl) ?_
                          refine lv_ldc2 (v := 1024) hx hb hown (hts _ mbM_wrong_5) dM_wrong_225 ?_
                          refine lv_lrem hx hb dM_wrong_228 (by decide) ?_
                          refine lv_ladd hx hb dM_wrong_229 ?_
                          refine lv_lstore (lv' := [(5, .long ((((((z ((((((v.toInt64 &&& 4294967295) / 1024) - ((v.toInt64 &&& 4294967295) / 1024) / 8 * 8).toInt32) + 0) + 8).toNatClampNeg).toInt64) &&& 4294967295) / 1024) * 1024) + ((v.toInt64 &&& 4294967295) - (v.toInt64 &&& 4294967295) / 1024 * 1024))), (14, .long 1), (12, .long (((z ((((((v.toInt64 &&& 4294967295) / 1024) - ((v.toInt64 &&& 4294967295) / 1024) / 8 * 8).toInt32) + 0) + 8).toNatClampNeg).toInt64) &&& 4294967295)), (10, .long (((z (((((v.toInt64 &&& 4294967295) / 1024) - ((v.toInt64 &&& 4294967295) / 1024) / 8 * 8).toInt32) + 0).toNatClampNeg).toInt64) &&& 4294967295)), (9, .int (((((v.toInt64 &&& 4294967295) / 1024) - ((v.toInt64 &&& 4294967295) / 1024) / 8 * 8).toInt32) + 0)), (7, .long ((v.toInt64 &&& 4294967295) / 1024)), (4, .int 1), (0, .ref k0), (1, .int v), (2, .int how), (3, .int wd)]) hx hb dM_wrong_230 hl (by decide) rfl (fun ls hl => ?_)
                          refine b_M_wrong hx hb hown hts dC dI k0 yb zb cI y z th a1 a2 a3 a4 a5 a6 fo how ((((((z ((((((v.toInt64 &&& 4294967295) / 1024) - ((v.toInt64 &&& 4294967295) / 1024) / 8 * 8).toInt32) + 0) + 8).toNatClampNeg).toInt64) &&& 4294967295) / 1024) * 1024) + ((v.toInt64 &&& 4294967295) - (v.toInt64 &&& 4294967295) / 1024 * 1024)) hK _ _ ls hP hD hS (lv_sub hl [0, 9, 7] rfl) (fun H locs ls hls hP hD hS => ?_)
                          exact W.iret (v := (s_b232 how ((((((z ((((((v.toInt64 &&& 4294967295) / 1024) - ((v.toInt64 &&& 4294967295) / 1024) / 8 * 8).toInt32) + 0) + 8).toNatClampNeg).toInt64) &&& 4294967295) / 1024) * 1024) + ((v.toInt64 &&& 4294967295) - (v.toInt64 &&& 4294967295) / 1024 * 1024))).1) hx hb hr (fun t ht hW => ⟨⟨(s_b232 how ((((((z ((((((v.toInt64 &&& 4294967295) / 1024) - ((v.toInt64 &&& 4294967295) / 1024) / 8 * 8).toInt32) + 0) + 8).toNatClampNeg).toInt64) &&& 4294967295) / 1024) * 1024) + ((v.toInt64 &&& 4294967295) - (v.toInt64 &&& 4294967295) / 1024 * 1024))).1, ((s_b232 how ((((((z ((((((v.toInt64 &&& 4294967295) / 1024) - ((v.toInt64 &&& 4294967295) / 1024) / 8 * 8).toInt32) + 0) + 8).toNatClampNeg).toInt64) &&& 4294967295) / 1024) * 1024) + ((v.toInt64 &&& 4294967295) - (v.toInt64 &&& 4294967295) / 1024 * 1024))).2), rfl, by simp only [s_M_wrong, if_pos c_1, if_pos c_51, if_pos c_78, if_neg c_82, if_neg c_84, if_pos c_86, if_neg c_87, if_pos c_90, if_neg c_91], by rw [ht]; exact hP, va_K.moved hW.alike hK, hD⟩, hS.F ht⟩) hS.2.2 dM_wrong_309
                        · skip
                          refine lv_iload_n hx hb dM_wrong_203 rfl (lv_at hl 9 rfl) ?_
                          refine lv_if_ne (tgt := 211) hx hb dM_wrong_204 (by decide) (fun c_92 => ?_) (fun c_92 => ?_)
                          · exact absurd c_51 c_92
                          · skip
                            refine lv_iconst (v := 4) hx hb dM_wrong_207 (by decide) ?_
                            refine lv_goto (tgt := 212) hx hb dM_wrong_208 (by decide) ?_
                            exact W.iret (v := 4) hx hb hr (fun t ht hW => ⟨⟨4, fo, rfl, by simp only [s_M_wrong, if_pos c_1, if_pos c_51, if_pos c_78, if_neg c_82, if_neg c_84, if_pos c_86, if_neg c_87, if_pos c_90, if_pos c_91], by rw [ht]; exact hP, va_K.moved hW.alike hK, hD⟩, hS.F ht⟩) hS.2.2 dM_wrong_212
                      · skip
                        refine lv_ldc2 (v := 4) hx hb hown (hts _ mbM_wrong_9) dM_wrong_180 ?_
                        refine lv_goto (tgt := 187) hx hb dM_wrong_183 (by decide) ?_
                        refine lv_lstore (lv' := [(14, .long 4), (12, .long (((z ((((((v.toInt64 &&& 4294967295) / 1024) - ((v.toInt64 &&& 4294967295) / 1024) / 8 * 8).toInt32) + 0) + 8).toNatClampNeg).toInt64) &&& 4294967295)), (10, .long (((z (((((v.toInt64 &&& 4294967295) / 1024) - ((v.toInt64 &&& 4294967295) / 1024) / 8 * 8).toInt32) + 0).toNatClampNeg).toInt64) &&& 4294967295)), (9, .int (((((v.toInt64 &&& 4294967295) / 1024) - ((v.toInt64 &&& 4294967295) / 1024) / 8 * 8).toInt32) + 0)), (7, .long ((v.toInt64 &&& 4294967295) / 1024)), (5, .long (v.toInt64 &&& 4294967295)), (4, .int 1), (0, .ref k0), (1, .int v), (2, .int how), (3, .int wd)]) hx hb dM_wrong_187 hl (by decide) rfl (fun ls hl => ?_)
                        refine lv_lload hx hb dM_wrong_189 (lv_at hl 1 rfl) ?_
                        refine lv_lload hx hb dM_wrong_191 (lv_at hl 0 rfl) ?_
                        refine lv_ldiv hx hb dM_wrong_193 (by decide) ?_
                        refine lv_ldc2 (v := 2) hx hb hown (hts _ mbM_wrong_8) dM_wrong_194 ?_
                        refine lv_lrem hx hb dM_wrong_197 (by decide) ?_
                        refine lv_lconst (v := 0) hx hb dM_wrong_198 (by decide) ?_
                        refine W.lcmp hx hb dM_wrong_199 ?_
                        refine lv_if_ne (tgt := 213) hx hb dM_wrong_200 (by decide) (fun c_93 => ?_) (fun c_93 => ?_)
                        · skip
                          refine lv_lload hx hb dM_wrong_213 (lv_at hl 1 rfl) ?_
                          refine lv_ldc2 (v := 1024) hx hb hown (hts _ mbM_wrong_5) dM_wrong_215 ?_
                          refine lv_ldiv hx hb dM_wrong_218 (by decide) ?_
                          refine lv_ldc2 (v := 1024) hx hb hown (hts _ mbM_wrong_5) dM_wrong_219 ?_
                          refine lv_lmul hx hb dM_wrong_222 ?_
                          refine lv_lload hx hb dM_wrong_223 (lv_at hl 5 rfl) ?_
                          refine lv_ldc2 (v := 1024) hx hb hown (hts _ mbM_wrong_5) dM_wrong_225 ?_
                          refine lv_lrem hx hb dM_wrong_228 (by decide) ?_
                          refine lv_ladd hx hb dM_wrong_229 ?_
                          refine lv_lstore (lv' := [(5, .long ((((((z ((((((v.toInt64 &&& 4294967295) / 1024) - ((v.toInt64 &&& 4294967295) / 1024) / 8 * 8).toInt32) + 0) + 8).toNatClampNeg).toInt64) &&& 4294967295) / 1024) * 1024) + ((v.toInt64 &&& 4294967295) - (v.toInt64 &&& 4294967295) / 1024 * 1024))), (14, .long 4), (12, .long (((z ((((((v.toInt64 &&& 4294967295) / 1024) - ((v.toInt64 &&& 4294967295) / 1024) / 8 * 8).toInt32) + 0) + 8).toNatClampNeg).toInt64) &&& 4294967295)), (10, .long (((z (((((v.toInt64 &&& 4294967295) / 1024) - ((v.toInt64 &&& 4294967295) / 1024) / 8 * 8).toInt32) + 0).toNatClampNeg).toInt64) &&& 4294967295)), (9, .int (((((v.toInt64 &&& 4294967295) / 1024) - ((v.toInt64 &&& 4294967295) / 1024) / 8 * 8).toInt32) + 0)), (7, .long ((v.toInt64 &&& 4294967295) / 1024)), (4, .int 1), (0, .ref k0), (1, .int v), (2, .int how), (3, .int wd)]) hx hb dM_wrong_230 hl (by decide) rfl (fun ls hl => ?_)
                          refine b_M_wrong hx hb hown hts dC dI k0 yb zb cI y z th a1 a2 a3 a4 a5 a6 fo how ((((((z ((((((v.toInt64 &&& 4294967295) / 1024) - ((v.toInt64 &&& 4294967295) / 1024) / 8 * 8).toInt32) + 0) + 8).toNatClampNeg).toInt64) &&& 4294967295) / 1024) * 1024) + ((v.toInt64 &&& 4294967295) - (v.toInt64 &&& 4294967295) / 1024 * 1024)) hK _ _ ls hP hD hS (lv_sub hl [0, 9, 7] rfl) (fun H locs ls hls hP hD hS => ?_)
                          exact W.iret (v := (s_b232 how ((((((z ((((((v.toInt64 &&& 4294967295) / 1024) - ((v.toInt64 &&& 4294967295) / 1024) / 8 * 8).toInt32) + 0) + 8).toNatClampNeg).toInt64) &&& 4294967295) / 1024) * 1024) + ((v.toInt64 &&& 4294967295) - (v.toInt64 &&& 4294967295) / 1024 * 1024))).1) hx hb hr (fun t ht hW => ⟨⟨(s_b232 how ((((((z ((((((v.toInt64 &&& 4294967295) / 1024) - ((v.toInt64 &&& 4294967295) / 1024) / 8 * 8).toInt32) + 0) + 8).toNatClampNeg).toInt64) &&& 4294967295) / 1024) * 1024) + ((v.toInt64 &&& 4294967295) - (v.toInt64 &&& 4294967295) / 1024 * 1024))).1, ((s_b232 how ((((((z ((((((v.toInt64 &&& 4294967295) / 1024) - ((v.toInt64 &&& 4294967295) / 1024) / 8 * 8).toInt32) + 0) + 8).toNatClampNeg).toInt64) &&& 4294967295) / 1024) * 1024) + ((v.toInt64 &&& 4294967295) - (v.toInt64 &&& 4294967295) / 1024 * 1024))).2), rfl, by simp only [s_M_wrong, if_pos c_1, if_pos c_51, if_pos c_78, if_neg c_82, if_neg c_84, if_pos c_86, if_neg c_87, if_neg c_90, if_neg c_93], by rw [ht]; exact hP, va_K.moved hW.alike hK, hD⟩, hS.F ht⟩) hS.2.2 dM_wrong_309
                        · skip
                          refine lv_iload_n hx hb dM_wrong_203 rfl (lv_at hl 9 rfl) ?_
                          refine lv_if_ne (tgt := 211) hx hb dM_wrong_204 (by decide) (fun c_94 => ?_) (fun c_94 => ?_)
                          · exact absurd c_51 c_94
                          · skip
                            refine lv_iconst (v := 4) hx hb dM_wrong_207 (by decide) ?_
                            refine lv_goto (tgt := 212) hx hb dM_wrong_208 (by decide) ?_
                            exact W.iret (v := 4) hx hb hr (fun t ht hW => ⟨⟨4, fo, rfl, by simp only [s_M_wrong, if_pos c_1, if_pos c_51, if_pos c_78, if_neg c_82, if_neg c_84, if_pos c_86, if_neg c_87, if_neg c_90, if_pos c_93], by rw [ht]; exact hP, va_K.moved hW.alike hK, hD⟩, hS.F ht⟩) hS.2.2 dM_wrong_212
                    · skip
                      refine lv_aload_n hx hb dM_wrong_152 rfl (lv_at hl 6 rfl) ?_
                      refine lv_iconst (v := 1) hx hb dM_wrong_153 (by decide) ?_
                      have hPc := hP.sub (ws' := [(k0, .inr (2, [.int th, .ref yb, .ref zb, .int a1, .int a2, .int a3, .int a4, .int a5, .int a6, .int fo])), (yb, .inl (cI, 65536, .inl y)), (zb, .inl (cI, 33, .inl z))]) [0, 1, 2] rfl
                      have hKc := hK.sub (tys' := [(cI, .int)]) [0] rfl
                      refine vp_callSi (va_Run.run (va_runV (As := [.int 1]) (rest := []) ⟨hx, hb, hml, hown, hts⟩ (c_M_mode l dC dI k0 yb zb cI y z th a1 a2 a3 a4 a5 a6 fo 1 (by decide)) (cwV 1 hts gM_wrong_M_mode rfl rfl rfl (by decide +kernel) ⟨Nat.le_of_ble_eq_true rfl, Nat.le_of_ble_eq_true rfl⟩) ⟨fun a U g mk q => by obtain ⟨q0, qP, qK⟩ := q; exact ⟨q0, qP, va_K.moved (u := U) (U := U.calling g mk a) (Vm.Alike.refl U.vm) qK⟩, va_recv hKc hPc (ci := 2) (q0 := 0) rfl rfl, fun U hU hW => ⟨rfl, by rw [hU]; exact hPc, va_K.moved hW.alike hKc⟩⟩ rfl rfl hl.1 rfl (lv_room (Nat.le_of_ble_eq_true rfl)) dM_wrong_154 ⟨Nat.le_of_ble_eq_true rfl, Nat.le_of_ble_eq_true rfl⟩)) (fun r_95 hw_96 => ?_)
                      subst hw_96
                      refine lv_if_eq (tgt := 166) hx hb dM_wrong_157 (by decide) (fun c_97 => ?_) (fun c_97 => ?_)
                      · skip
                        refine lv_ldc2 (v := 2) hx hb hown (hts _ mbM_wrong_8) dM_wrong_166 ?_
                        refine lv_goto (tgt := 187) hx hb dM_wrong_169 (by decide) ?_
                        refine lv_lstore (lv' := [(14, .long 2), (12, .long (((z ((((((v.toInt64 &&& 4294967295) / 1024) - ((v.toInt64 &&& 4294967295) / 1024) / 8 * 8).toInt32) + 0) + 8).toNatClampNeg).toInt64) &&& 4294967295)), (10, .long (((z (((((v.toInt64 &&& 4294967295) / 1024) - ((v.toInt64 &&& 4294967295) / 1024) / 8 * 8).toInt32) + 0).toNatClampNeg).toInt64) &&& 4294967295)), (9, .int (((((v.toInt64 &&& 4294967295) / 1024) - ((v.toInt64 &&& 4294967295) / 1024) / 8 * 8).toInt32) + 0)), (7, .long ((v.toInt64 &&& 4294967295) / 1024)), (5, .long (v.toInt64 &&& 4294967295)), (4, .int 1), (0, .ref k0), (1, .int v), (2, .int how), (3, .int wd)]) hx hb dM_wrong_187 hl (by decide) rfl (fun ls hl => ?_)
                        refine lv_lload hx hb dM_wrong_189 (lv_at hl 1 rfl) ?_
                        refine lv_lload hx hb dM_wrong_191 (lv_at hl 0 rfl) ?_
                        refine lv_ldiv hx hb dM_wrong_193 (by decide) ?_
                        refine lv_ldc2 (v := 2) hx hb hown (hts _ mbM_wrong_8) dM_wrong_194 ?_
                        refine lv_lrem hx hb dM_wrong_197 (by decide) ?_
                        refine lv_lconst (v := 0) hx hb dM_wrong_198 (by decide) ?_
                        refine W.lcmp hx hb dM_wrong_199 ?_
                        refine lv_if_ne (tgt := 213) hx hb dM_wrong_200 (by decide) (fun c_98 => ?_) (fun c_98 => ?_)
                        · skip
                          refine lv_lload hx hb dM_wrong_213 (lv_at hl 1 rfl) ?_
                          refine lv_ldc2 (v := 1024) hx hb hown (hts _ mbM_wrong_5) dM_wrong_215 ?_
                          refine lv_ldiv hx hb dM_wrong_218 (by decide) ?_
                          refine lv_ldc2 (v := 1024) hx hb hown (hts _ mbM_wrong_5) dM_wrong_219 ?_
                          refine lv_lmul hx hb dM_wrong_222 ?_
                          refine lv_lload hx hb dM_wrong_223 (lv_at hl 5 rfl) ?_
                          refine lv_ldc2 (v := 1024) hx hb hown (hts _ mbM_wrong_5) dM_wrong_225 ?_
                          refine lv_lrem hx hb dM_wrong_228 (by decide) ?_
                          refine lv_ladd hx hb dM_wrong_229 ?_
                          refine lv_lstore (lv' := [(5, .long ((((((z ((((((v.toInt64 &&& 4294967295) / 1024) - ((v.toInt64 &&& 4294967295) / 1024) / 8 * 8).toInt32) + 0) + 8).toNatClampNeg).toInt64) &&& 4294967295) / 1024) * 1024) + ((v.toInt64 &&& 4294967295) - (v.toInt64 &&& 4294967295) / 1024 * 1024))), (14, .long 2), (12, .long (((z ((((((v.toInt64 &&& 4294967295) / 1024) - ((v.toInt64 &&& 4294967295) / 1024) / 8 * 8).toInt32) + 0) + 8).toNatClampNeg).toInt64) &&& 4294967295)), (10, .long (((z (((((v.toInt64 &&& 4294967295) / 1024) - ((v.toInt64 &&& 4294967295) / 1024) / 8 * 8).toInt32) + 0).toNatClampNeg).toInt64) &&& 4294967295)), (9, .int (((((v.toInt64 &&& 4294967295) / 1024) - ((v.toInt64 &&& 4294967295) / 1024) / 8 * 8).toInt32) + 0)), (7, .long ((v.toInt64 &&& 4294967295) / 1024)), (4, .int 1), (0, .ref k0), (1, .int v), (2, .int how), (3, .int wd)]) hx hb dM_wrong_230 hl (by decide) rfl (fun ls hl => ?_)
                          refine b_M_wrong hx hb hown hts dC dI k0 yb zb cI y z th a1 a2 a3 a4 a5 a6 fo how ((((((z ((((((v.toInt64 &&& 4294967295) / 1024) - ((v.toInt64 &&& 4294967295) / 1024) / 8 * 8).toInt32) + 0) + 8).toNatClampNeg).toInt64) &&& 4294967295) / 1024) * 1024) + ((v.toInt64 &&& 4294967295) - (v.toInt64 &&& 4294967295) / 1024 * 1024)) hK _ _ ls hP hD hS (lv_sub hl [0, 9, 7] rfl) (fun H locs ls hls hP hD hS => ?_)
                          exact W.iret (v := (s_b232 how ((((((z ((((((v.toInt64 &&& 4294967295) / 1024) - ((v.toInt64 &&& 4294967295) / 1024) / 8 * 8).toInt32) + 0) + 8).toNatClampNeg).toInt64) &&& 4294967295) / 1024) * 1024) + ((v.toInt64 &&& 4294967295) - (v.toInt64 &&& 4294967295) / 1024 * 1024))).1) hx hb hr (fun t ht hW => ⟨⟨(s_b232 how ((((((z ((((((v.toInt64 &&& 4294967295) / 1024) - ((v.toInt64 &&& 4294967295) / 1024) / 8 * 8).toInt32) + 0) + 8).toNatClampNeg).toInt64) &&& 4294967295) / 1024) * 1024) + ((v.toInt64 &&& 4294967295) - (v.toInt64 &&& 4294967295) / 1024 * 1024))).1, ((s_b232 how ((((((z ((((((v.toInt64 &&& 4294967295) / 1024) - ((v.toInt64 &&& 4294967295) / 1024) / 8 * 8).toInt32) + 0) + 8).toNatClampNeg).toInt64) &&& 4294967295) / 1024) * 1024) + ((v.toInt64 &&& 4294967295) - (v.toInt64 &&& 4294967295) / 1024 * 1024))).2), rfl, by simp only [s_M_wrong, if_pos c_1, if_pos c_51, if_pos c_78, if_neg c_82, if_neg c_84, if_pos c_86, if_pos c_87, if_pos c_97, if_neg c_98], by rw [ht]; exact hP, va_K.moved hW.alike hK, hD⟩, hS.F ht⟩) hS.2.2 dM_wrong_309
                        · skip
                          refine lv_iload_n hx hb dM_wrong_203 rfl (lv_at hl 9 rfl) ?_
                          refine lv_if_ne (tgt := 211) hx hb dM_wrong_204 (by decide) (fun c_99 => ?_) (fun c_99 => ?_)
                          · exact absurd c_51 c_99
                          · skip
                            refine lv_iconst (v := 4) hx hb dM_wrong_207 (by decide) ?_
                            refine lv_goto (tgt := 212) hx hb dM_wrong_208 (by decide) ?_
                            exact W.iret (v := 4) hx hb hr (fun t ht hW => ⟨⟨4, fo, rfl, by simp only [s_M_wrong, if_pos c_1, if_pos c_51, if_pos c_78, if_neg c_82, if_neg c_84, if_pos c_86, if_pos c_87, if_pos c_97, if_pos c_98], by rw [ht]; exact hP, va_K.moved hW.alike hK, hD⟩, hS.F ht⟩) hS.2.2 dM_wrong_212
                      · skip
                        refine lv_ldc2 (v := 8) hx hb hown (hts _ mbM_wrong_6) dM_wrong_160 ?_
                        refine lv_goto (tgt := 187) hx hb dM_wrong_163 (by decide) ?_
                        refine lv_lstore (lv' := [(14, .long 8), (12, .long (((z ((((((v.toInt64 &&& 4294967295) / 1024) - ((v.toInt64 &&& 4294967295) / 1024) / 8 * 8).toInt32) + 0) + 8).toNatClampNeg).toInt64) &&& 4294967295)), (10, .long (((z (((((v.toInt64 &&& 4294967295) / 1024) - ((v.toInt64 &&& 4294967295) / 1024) / 8 * 8).toInt32) + 0).toNatClampNeg).toInt64) &&& 4294967295)), (9, .int (((((v.toInt64 &&& 4294967295) / 1024) - ((v.toInt64 &&& 4294967295) / 1024) / 8 * 8).toInt32) + 0)), (7, .long ((v.toInt64 &&& 4294967295) / 1024)), (5, .long (v.toInt64 &&& 4294967295)), (4, .int 1), (0, .ref k0), (1, .int v), (2, .int how), (3, .int wd)]) hx hb dM_wrong_187 hl (by decide) rfl (fun ls hl => ?_)
                        refine lv_lload hx hb dM_wrong_189 (lv_at hl 1 rfl) ?_
                        refine lv_lload hx hb dM_wrong_191 (lv_at hl 0 rfl) ?_
                        refine lv_ldiv hx hb dM_wrong_193 (by decide) ?_
                        refine lv_ldc2 (v := 2) hx hb hown (hts _ mbM_wrong_8) dM_wrong_194 ?_
                        refine lv_lrem hx hb dM_wrong_197 (by decide) ?_
                        refine lv_lconst (v := 0) hx hb dM_wrong_198 (by decide) ?_
                        refine W.lcmp hx hb dM_wrong_199 ?_
                        refine lv_if_ne (tgt := 213) hx hb dM_wrong_200 (by decide) (fun c_100 => ?_) (fun c_100 => ?_)
                        · skip
                          refine lv_lload hx hb dM_wrong_213 (lv_at hl 1 rfl) ?_
                          refine lv_ldc2 (v := 1024) hx hb hown (hts _ mbM_wrong_5) dM_wrong_215 ?_
                          refine lv_ldiv hx hb dM_wrong_218 (by decide) ?_
                          refine lv_ldc2 (v := 1024) hx hb hown (hts _ mbM_wrong_5) dM_wrong_219 ?_
                          refine lv_lmul hx hb dM_wrong_222 ?_
                          refine lv_lload hx hb dM_wrong_223 (lv_at hl 5 rfl) ?_
                          refine lv_ldc2 (v := 1024) hx hb hown (hts _ mbM_wrong_5) dM_wrong_225 ?_
                          refine lv_lrem hx hb dM_wrong_228 (by decide) ?_
                          refine lv_ladd hx hb dM_wrong_229 ?_
                          refine lv_lstore (lv' := [(5, .long ((((((z ((((((v.toInt64 &&& 4294967295) / 1024) - ((v.toInt64 &&& 4294967295) / 1024) / 8 * 8).toInt32) + 0) + 8).toNatClampNeg).toInt64) &&& 4294967295) / 1024) * 1024) + ((v.toInt64 &&& 4294967295) - (v.toInt64 &&& 4294967295) / 1024 * 1024))), (14, .long 8), (12, .long (((z ((((((v.toInt64 &&& 4294967295) / 1024) - ((v.toInt64 &&& 4294967295) / 1024) / 8 * 8).toInt32) + 0) + 8).toNatClampNeg).toInt64) &&& 4294967295)), (10, .long (((z (((((v.toInt64 &&& 4294967295) / 1024) - ((v.toInt64 &&& 4294967295) / 1024) / 8 * 8).toInt32) + 0).toNatClampNeg).toInt64) &&& 4294967295)), (9, .int (((((v.toInt64 &&& 4294967295) / 1024) - ((v.toInt64 &&& 4294967295) / 1024) / 8 * 8).toInt32) + 0)), (7, .long ((v.toInt64 &&& 4294967295) / 1024)), (4, .int 1), (0, .ref k0), (1, .int v), (2, .int how), (3, .int wd)]) hx hb dM_wrong_230 hl (by decide) rfl (fun ls hl => ?_)
                          refine b_M_wrong hx hb hown hts dC dI k0 yb zb cI y z th a1 a2 a3 a4 a5 a6 fo how ((((((z ((((((v.toInt64 &&& 4294967295) / 1024) - ((v.toInt64 &&& 4294967295) / 1024) / 8 * 8).toInt32) + 0) + 8).toNatClampNeg).toInt64) &&& 4294967295) / 1024) * 1024) + ((v.toInt64 &&& 4294967295) - (v.toInt64 &&& 4294967295) / 1024 * 1024)) hK _ _ ls hP hD hS (lv_sub hl [0, 9, 7] rfl) (fun H locs ls hls hP hD hS => ?_)
                          exact W.iret (v := (s_b232 how ((((((z ((((((v.toInt64 &&& 4294967295) / 1024) - ((v.toInt64 &&& 4294967295) / 1024) / 8 * 8).toInt32) + 0) + 8).toNatClampNeg).toInt64) &&& 4294967295) / 1024) * 1024) + ((v.toInt64 &&& 4294967295) - (v.toInt64 &&& 4294967295) / 1024 * 1024))).1) hx hb hr (fun t ht hW => ⟨⟨(s_b232 how ((((((z ((((((v.toInt64 &&& 4294967295) / 1024) - ((v.toInt64 &&& 4294967295) / 1024) / 8 * 8).toInt32) + 0) + 8).toNatClampNeg).toInt64) &&& 4294967295) / 1024) * 1024) + ((v.toInt64 &&& 4294967295) - (v.toInt64 &&& 4294967295) / 1024 * 1024))).1, ((s_b232 how ((((((z ((((((v.toInt64 &&& 4294967295) / 1024) - ((v.toInt64 &&& 4294967295) / 1024) / 8 * 8).toInt32) + 0) + 8).toNatClampNeg).toInt64) &&& 4294967295) / 1024) * 1024) + ((v.toInt64 &&& 4294967295) - (v.toInt64 &&& 4294967295) / 1024 * 1024))).2), rfl, by simp only [s_M_wrong, if_pos c_1, if_pos c_51, if_pos c_78, if_neg c_82, if_neg c_84, if_pos c_86, if_pos c_87, if_neg c_97, if_neg c_100], by rw [ht]; exact hP, va_K.moved hW.alike hK, hD⟩, hS.F ht⟩) hS.2.2 dM_wrong_309
                        · skip
                          refine lv_iload_n hx hb dM_wrong_203 rfl (lv_at hl 9 rfl) ?_
                          refine lv_if_ne (tgt := 211) hx hb dM_wrong_204 (by decide) (fun c_101 => ?_) (fun c_101 => ?_)
                          · exact absurd c_51 c_101
                          · skip
                            refine lv_iconst (v := 4) hx hb dM_wrong_207 (by decide) ?_
                            refine lv_goto (tgt := 212) hx hb dM_wrong_208 (by decide) ?_
                            exact W.iret (v := 4) hx hb hr (fun t ht hW => ⟨⟨4, fo, rfl, by simp only [s_M_wrong, if_pos c_1, if_pos c_51, if_pos c_78, if_neg c_82, if_neg c_84, if_pos c_86, if_pos c_87, if_neg c_97, if_pos c_100], by rw [ht]; exact hP, va_K.moved hW.alike hK, hD⟩, hS.F ht⟩) hS.2.2 dM_wrong_212
                  · skip
                    refine lv_iload_n hx hb dM_wrong_135 rfl (lv_at hl 8 rfl) ?_
                    refine lv_if_ne (tgt := 144) hx hb dM_wrong_136 (by decide) (fun c_102 => ?_) (fun c_102 => ?_)
                    · exact absurd c_51 c_102
                    · skip
                      refine lv_bipush (v := 10) hx hb dM_wrong_139 (by decide) ?_
                      refine lv_goto (tgt := 146) hx hb dM_wrong_141 (by decide) ?_
                      exact W.iret (v := 10) hx hb hr (fun t ht hW => ⟨⟨10, fo, rfl, by simp only [s_M_wrong, if_pos c_1, if_pos c_51, if_pos c_78, if_neg c_82, if_neg c_84, if_neg c_86], by rw [ht]; exact hP, va_K.moved hW.alike hK, hD⟩, hS.F ht⟩) hS.2.2 dM_wrong_146
        · skip
          refine lv_bipush (v := 6) hx hb dM_wrong_26 (by decide) ?_
          exact W.iret (v := 6) hx hb hr (fun t ht hW => ⟨⟨6, fo, rfl, by simp only [s_M_wrong, if_pos c_1, if_pos c_51, if_neg c_78], by rw [ht]; exact hP, va_K.moved hW.alike hK, hD⟩, hS.F ht⟩) hS.2.2 dM_wrong_28
set_option maxRecDepth 100000 in
theorem miM_probe_X2 : ∀ w ∈ u_ws RX2 TX2 10, w ∈ wsM_probe := by decide +kernel
set_option maxRecDepth 100000 in
theorem mbM_probe_1 : (.fieldLink RX2 53 "SoftMapsModel" "faults" "I" : Cond) ∈ wsM_probe := by decide +kernel
set_option maxRecDepth 100000 in
theorem mbM_probe_2 : (.fieldLink RX2 56 "SoftMapsModel" "fault" "I" : Cond) ∈ wsM_probe := by decide +kernel
set_option maxRecDepth 100000 in
theorem mbM_probe_3 : (.fieldLink RX2 59 "SoftMapsModel" "address" "I" : Cond) ∈ wsM_probe := by decide +kernel
def s_M_probe (z : Nat → Int32) (a1 : Int32) (a2 : Int32) (a3 : Int32) (fo : Int32) (v : Int32) (how : Int32) (wd : Int32) : Int32 × Int32 × Int32 × Int32 × Int32 :=
  if (s_M_wrong z fo v how wd).1 ≤ 0 then
    if (s_M_wrong z fo v how wd).1 = 0 then
      (1, (a1, a2, a3, (s_M_wrong z fo v how wd).2))
    else
      (0, (a1, a2, a3, (s_M_wrong z fo v how wd).2))
  else
    if (s_M_wrong z fo v how wd).1 = 0 then
      (1, (a1 + 1, (s_M_wrong z fo v how wd).1, v, (s_M_wrong z fo v how wd).2))
    else
      (0, (a1 + 1, (s_M_wrong z fo v how wd).1, v, (s_M_wrong z fo v how wd).2))
set_option maxHeartbeats 4000000 in
set_option maxRecDepth 100000 in
theorem c_M_probe (l : Launch) (dC : Nat → ClassId) (dI : Nat → Nat → Nat) (sz : Nat) (k0 yb zb : Nat) (cI : ClassId) (y z : Nat → Int32) (th a1 a2 a3 a4 a5 a6 fo : Int32) (v : Int32) (how : Int32) (wd : Int32)  : Met l yM_probe wsM_probe ({ frames := 2, cells := 0, slots := 0, locals := 56 }) (va_Pc [.ref k0, .int v, .int how, .int wd] (fun U => U.heap.size = sz ∧ va_P (dC, dI) vwCl [(k0, .inr (2, [.int th, .ref yb, .ref zb, .int a1, .int a2, .int a3, .int a4, .int a5, .int a6, .int fo])), (yb, .inl (cI, 65536, .inl y)), (zb, .inl (cI, 33, .inl z))] U.heap ∧ va_K (dC, dI) vwCl [(cI, .int)] U ∧ va_D (fun _ => True) [(k0, .inr (2, [.int th, .ref yb, .ref zb, .int a1, .int a2, .int a3, .int a4, .int a5, .int a6, .int fo])), (yb, .inl (cI, 65536, .inl y)), (zb, .inl (cI, 33, .inl z))])) (va_Qi (fun (a_ : Int32) (u : Int32 × Int32 × Int32 × Int32) => (a_, u) = s_M_probe z a1 a2 a3 fo v how wd) (fun (u : Int32 × Int32 × Int32 × Int32) (t : State) => va_P (dC, dI) vwCl [(k0, .inr (2, [.int th, .ref yb, .ref zb, .int u.1, .int u.2.1, .int u.2.2.1, .int a4, .int a5, .int a6, .int u.2.2.2])), (yb, .inl (cI, 65536, .inl y)), (zb, .inl (cI, 33, .inl z))] t.heap ∧ va_K (dC, dI) vwCl [(cI, .int)] t ∧ va_D (va_A [(k0, .inr (2, [.int th, .ref yb, .ref zb, .int a1, .int a2, .int a3, .int a4, .int a5, .int a6, .int fo])), (yb, .inl (cI, 65536, .inl y)), (zb, .inl (cI, 33, .inl z))] sz) [(k0, .inr (2, [.int th, .ref yb, .ref zb, .int u.1, .int u.2.1, .int u.2.2.1, .int a4, .int a5, .int a6, .int u.2.2.2])), (yb, .inl (cI, 65536, .inl y)), (zb, .inl (cI, 33, .inl z))]) (va_A [(k0, .inr (2, [.int th, .ref yb, .ref zb, .int a1, .int a2, .int a3, .int a4, .int a5, .int a6, .int fo])), (yb, .inl (cI, 65536, .inl y)), (zb, .inl (cI, 33, .inl z))] sz)) 0 0 (va_A [(k0, .inr (2, [.int th, .ref yb, .ref zb, .int a1, .int a2, .int a3, .int a4, .int a5, .int a6, .int fo])), (yb, .inl (cI, 65536, .inl y)), (zb, .inl (cI, 33, .inl z))] sz) := by
  refine Met.ofW (cc := cM_probe) (maxL := 5) (ret := (some .boolean)) (by decide) rfl ?_
  intro p e s m args below meth c s₁ B hml hv
  obtain ⟨rfl, hsz, hP, hK, hD0⟩ := hv
  have hx := B.exec
  have hb := B.bytes
  have hr := B.returns
  have hts := atoms_spec (ws := wsM_probe) B.pre
  have hown : s.vm.findClass RX2 = some m.cls := findClass_of_methodNamed B.named
  have hlocks := B.notSynchronized
  subst hsz
  have hD := hD0.self (sz := s.heap.size)
  generalize hAe : va_A [(k0, .inr (2, [.int th, .ref yb, .ref zb, .int a1, .int a2, .int a3, .int a4, .int a5, .int a6, .int fo])), (yb, .inl (cI, 65536, .inl y)), (zb, .inl (cI, 33, .inl z))] s.heap.size = A at hD ⊢
  have hA : ∀ q : Nat, s.heap.size ≤ q → A q := fun q h => by rw [← hAe]; exact Or.inr h
  have hS : va_S A s.heap s.heap [] := va_S.rf
  have hP : va_P (dC, dI) vwCl [(k0, .inr (2, [.int th, .ref yb, .ref zb, .int a1, .int a2, .int a3, .int a4, .int a5, .int a6, .int fo])), (yb, .inl (cI, 65536, .inl y)), (zb, .inl (cI, 33, .inl z))] s.heap := hP
  have hl := lv_entry ([.ref k0, .int v, .int how, .int wd]) (n := 5) (Nat.le_of_ble_eq_true rfl)
  rw [lg_entry_eq]
  generalize (lg_sl ([.ref k0, .int v, .int how, .int wd]) ++ List.replicate (5 - (lg_sl ([.ref k0, .int v, .int how, .int wd])).length) Slot.unset).toArray = ls at hl ⊢
  have hl : lv_has ls 5 [(0, .ref k0), (1, .int v), (2, .int how), (3, .int wd)] := hl
  refine lv_aload_n hx hb dM_probe_0 rfl (lv_at hl 0 rfl) ?_
  refine lv_iload_n hx hb dM_probe_1 rfl (lv_at hl 1 rfl) ?_
  refine lv_iload_n hx hb dM_probe_2 rfl (lv_at hl 2 rfl) ?_
  refine lv_iload_n hx hb dM_probe_3 rfl (lv_at hl 3 rfl) ?_
  have hPc := hP.sub (ws' := [(k0, .inr (2, [.int th, .ref yb, .ref zb, .int a1, .int a2, .int a3, .int a4, .int a5, .int a6, .int fo])), (yb, .inl (cI, 65536, .inl y)), (zb, .inl (cI, 33, .inl z))]) [0, 1, 2] rfl
  have hDc := hD.sub (ws' := [(k0, .inr (2, [.int th, .ref yb, .ref zb, .int a1, .int a2, .int a3, .int a4, .int a5, .int a6, .int fo])), (yb, .inl (cI, 65536, .inl y)), (zb, .inl (cI, 33, .inl z))]) [0, 1, 2] (by decide) rfl
  have hFc := va_free (wc := [(k0, .inr (2, [.int th, .ref yb, .ref zb, .int a1, .int a2, .int a3, .int a4, .int a5, .int a6, .int fo])), (yb, .inl (cI, 65536, .inl y)), (zb, .inl (cI, 33, .inl z))]) hD hS hA [0, 1, 2] rfl
  have hKc := hK.sub (tys' := [(cI, .int)]) [0] rfl
  refine va_calli (va_runV (As := [.int v, .int how, .int wd]) (rest := []) ⟨hx, hb, hml, hown, hts⟩ (c_M_wrong l dC dI (s.heap.size) k0 yb zb cI y z th a1 a2 a3 a4 a5 a6 fo v how wd) (cwV 3 hts gM_probe_M_wrong rfl rfl rfl (by decide +kernel) ⟨Nat.le_of_ble_eq_true rfl, Nat.le_of_ble_eq_true rfl⟩) ⟨fun a U g mk q => by obtain ⟨q0, q1, qP, qK, qD⟩ := q; exact ⟨q0, q1, qP, va_K.moved (u := U) (U := U.calling g mk a) (Vm.Alike.refl U.vm) qK, qD⟩, va_recv hKc hPc (ci := 2) (q0 := 0) rfl rfl, fun U hU hW => ⟨rfl, by rw [hU], by rw [hU]; exact hPc, va_K.moved hW.alike hKc, hDc.weaken (fun _ _ _ _ => trivial)⟩⟩ rfl rfl hl.1 rfl (lv_room (Nat.le_of_ble_eq_true rfl)) dM_probe_4 ⟨Nat.le_of_ble_eq_true rfl, Nat.le_of_ble_eq_true rfl⟩) hS (fun q _ h => hFc q h) hFc (fun r_1 u_3 t H1 locs ht hvm hw_2 hB hz1 hk1 hS => ?_)
  have e1_ : r_1 = (s_M_wrong z fo v how wd).1 := congrArg Prod.fst hw_2
  have e2_ : u_3 = (s_M_wrong z fo v how wd).2 := congrArg Prod.snd hw_2
  subst e1_ e2_
  obtain ⟨hP1, hK1, hD1⟩ := hB
  rw [ht] at hP1
  obtain ⟨hP, hD⟩ := va_join (wr := []) (w1 := [(k0, .inr (2, [.int th, .ref yb, .ref zb, .int a1, .int a2, .int a3, .int a4, .int a5, .int a6, .int ((s_M_wrong z fo v how wd).2)])), (yb, .inl (cI, 65536, .inl y)), (zb, .inl (cI, 33, .inl z))]) hP hD [0, 1, 2] [] rfl rfl (by decide) (by decide) hk1 hFc hP1 hD1
  generalize H1 = H at hP hS ⊢
  have hP : va_P (dC, dI) vwCl [(k0, .inr (2, [.int th, .ref yb, .ref zb, .int a1, .int a2, .int a3, .int a4, .int a5, .int a6, .int ((s_M_wrong z fo v how wd).2)])), (yb, .inl (cI, 65536, .inl y)), (zb, .inl (cI, 33, .inl z))] H := hP
  have hD : va_D A [(k0, .inr (2, [.int th, .ref yb, .ref zb, .int a1, .int a2, .int a3, .int a4, .int a5, .int a6, .int ((s_M_wrong z fo v how wd).2)])), (yb, .inl (cI, 65536, .inl y)), (zb, .inl (cI, 33, .inl z))] := hD
  refine lv_istore (lv' := [(4, .int ((s_M_wrong z fo v how wd).1)), (0, .ref k0), (1, .int v), (2, .int how), (3, .int wd)]) hx hb dM_probe_7 hl (by decide) rfl (fun ls hl => ?_)
  refine lv_iload hx hb dM_probe_9 (lv_at hl 0 rfl) ?_
  refine lv_if_le (tgt := 35) hx hb dM_probe_11 (by decide) (fun c_4 => ?_) (fun c_4 => ?_)
  · skip
    refine lv_iload hx hb dM_probe_35 (lv_at hl 0 rfl) ?_
    refine lv_if_ne (tgt := 44) hx hb dM_probe_37 (by decide) (fun c_5 => ?_) (fun c_5 => ?_)
    · skip
      refine lv_iconst (v := 0) hx hb dM_probe_44 (by decide) ?_
      exact W.zret (v := 0) hx hb hr rfl (fun t ht hW => ⟨⟨0, (a1, a2, a3, (s_M_wrong z fo v how wd).2), rfl, by simp only [s_M_probe, if_pos c_4, if_neg c_5], by rw [ht]; exact hP, va_K.moved hW.alike hK, hD⟩, hS.F ht⟩) hS.2.2 dM_probe_45
    · skip
      refine lv_iconst (v := 1) hx hb dM_probe_40 (by decide) ?_
      refine lv_goto (tgt := 45) hx hb dM_probe_41 (by decide) ?_
      exact W.zret (v := 1) hx hb hr rfl (fun t ht hW => ⟨⟨1, (a1, a2, a3, (s_M_wrong z fo v how wd).2), rfl, by simp only [s_M_probe, if_pos c_4, if_pos c_5], by rw [ht]; exact hP, va_K.moved hW.alike hK, hD⟩, hS.F ht⟩) hS.2.2 dM_probe_45
  · skip
    refine lv_aload_n hx hb dM_probe_14 rfl (lv_at hl 1 rfl) ?_
    refine lv_dup hx hb dM_probe_15 rfl ?_
    refine va_get (D := (dC, dI)) (ci := 2) (v := .int a1) (C := RX2) (T := TX2) (N := 10) hx hb hts miM_probe_X2 hown hK hP 0 rfl rfl 3 (by decide) (hts _ mbM_probe_1) (fun _ h9 => h9) rfl dM_probe_16 ?_
    refine lv_iconst (v := 1) hx hb dM_probe_19 (by decide) ?_
    refine lv_iadd hx hb dM_probe_20 ?_
    refine va_put (D := (dC, dI)) (ci := 2) (v := .int (a1 + 1)) (ty := tyX2 3) (C := RX2) (T := TX2) (N := 10) hx hb hts miM_probe_X2 tyX2 tyX2_ok nmX2 hown hK hP hD hS 0 rfl rfl 3 (by decide) (hts _ mbM_probe_1) (fun _ h9 => h9) rfl (by decide +kernel) rfl rfl (Nat.le_of_ble_eq_true rfl) dM_probe_21 (fun H locs hP hD hS => ?_)
    have hP : va_P (dC, dI) vwCl [(k0, .inr (2, [.int th, .ref yb, .ref zb, .int (a1 + 1), .int a2, .int a3, .int a4, .int a5, .int a6, .int ((s_M_wrong z fo v how wd).2)])), (yb, .inl (cI, 65536, .inl y)), (zb, .inl (cI, 33, .inl z))] H := hP
    have hD : va_D A [(k0, .inr (2, [.int th, .ref yb, .ref zb, .int (a1 + 1), .int a2, .int a3, .int a4, .int a5, .int a6, .int ((s_M_wrong z fo v how wd).2)])), (yb, .inl (cI, 65536, .inl y)), (zb, .inl (cI, 33, .inl z))] := hD
    refine lv_aload_n hx hb dM_probe_24 rfl (lv_at hl 1 rfl) ?_
    refine lv_iload hx hb dM_probe_25 (lv_at hl 0 rfl) ?_
    refine va_put (D := (dC, dI)) (ci := 2) (v := .int ((s_M_wrong z fo v how wd).1)) (ty := tyX2 4) (C := RX2) (T := TX2) (N := 10) hx hb hts miM_probe_X2 tyX2 tyX2_ok nmX2 hown hK hP hD hS 0 rfl rfl 4 (by decide) (hts _ mbM_probe_2) (fun _ h9 => h9) rfl (by decide +kernel) rfl rfl (Nat.le_of_ble_eq_true rfl) dM_probe_27 (fun H locs hP hD hS => ?_)
    have hP : va_P (dC, dI) vwCl [(k0, .inr (2, [.int th, .ref yb, .ref zb, .int (a1 + 1), .int ((s_M_wrong z fo v how wd).1), .int a3, .int a4, .int a5, .int a6, .int ((s_M_wrong z fo v how wd).2)])), (yb, .inl (cI, 65536, .inl y)), (zb, .inl (cI, 33, .inl z))] H := hP
    have hD : va_D A [(k0, .inr (2, [.int th, .ref yb, .ref zb, .int (a1 + 1), .int ((s_M_wrong z fo v how wd).1), .int a3, .int a4, .int a5, .int a6, .int ((s_M_wrong z fo v how wd).2)])), (yb, .inl (cI, 65536, .inl y)), (zb, .inl (cI, 33, .inl z))] := hD
    refine lv_aload_n hx hb dM_probe_30 rfl (lv_at hl 1 rfl) ?_
    refine lv_iload_n hx hb dM_probe_31 rfl (lv_at hl 2 rfl) ?_
    refine va_put (D := (dC, dI)) (ci := 2) (v := .int v) (ty := tyX2 5) (C := RX2) (T := TX2) (N := 10) hx hb hts miM_probe_X2 tyX2 tyX2_ok nmX2 hown hK hP hD hS 0 rfl rfl 5 (by decide) (hts _ mbM_probe_3) (fun _ h9 => h9) rfl (by decide +kernel) rfl rfl (Nat.le_of_ble_eq_true rfl) dM_probe_32 (fun H locs hP hD hS => ?_)
    have hP : va_P (dC, dI) vwCl [(k0, .inr (2, [.int th, .ref yb, .ref zb, .int (a1 + 1), .int ((s_M_wrong z fo v how wd).1), .int v, .int a4, .int a5, .int a6, .int ((s_M_wrong z fo v how wd).2)])), (yb, .inl (cI, 65536, .inl y)), (zb, .inl (cI, 33, .inl z))] H := hP
    have hD : va_D A [(k0, .inr (2, [.int th, .ref yb, .ref zb, .int (a1 + 1), .int ((s_M_wrong z fo v how wd).1), .int v, .int a4, .int a5, .int a6, .int ((s_M_wrong z fo v how wd).2)])), (yb, .inl (cI, 65536, .inl y)), (zb, .inl (cI, 33, .inl z))] := hD
    refine lv_iload hx hb dM_probe_35 (lv_at hl 0 rfl) ?_
    refine lv_if_ne (tgt := 44) hx hb dM_probe_37 (by decide) (fun c_6 => ?_) (fun c_6 => ?_)
    · skip
      refine lv_iconst (v := 0) hx hb dM_probe_44 (by decide) ?_
      exact W.zret (v := 0) hx hb hr rfl (fun t ht hW => ⟨⟨0, (a1 + 1, (s_M_wrong z fo v how wd).1, v, (s_M_wrong z fo v how wd).2), rfl, by simp only [s_M_probe, if_neg c_4, if_neg c_6], by rw [ht]; exact hP, va_K.moved hW.alike hK, hD⟩, hS.F ht⟩) hS.2.2 dM_probe_45
    · skip
      refine lv_iconst (v := 1) hx hb dM_probe_40 (by decide) ?_
      refine lv_goto (tgt := 45) hx hb dM_probe_41 (by decide) ?_
      exact W.zret (v := 1) hx hb hr rfl (fun t ht hW => ⟨⟨1, (a1 + 1, (s_M_wrong z fo v how wd).1, v, (s_M_wrong z fo v how wd).2), rfl, by simp only [s_M_probe, if_neg c_4, if_pos c_6], by rw [ht]; exact hP, va_K.moved hW.alike hK, hD⟩, hS.F ht⟩) hS.2.2 dM_probe_45
set_option maxRecDepth 100000 in
theorem miM_find_X2 : ∀ w ∈ u_ws RX2 TX2 10, w ∈ wsM_find := by decide +kernel
set_option maxRecDepth 100000 in
theorem mbM_find_1 : (.fieldLink RX2 17 "SoftMapsModel" "thrown" "I" : Cond) ∈ wsM_find := by decide +kernel
set_option maxRecDepth 100000 in
theorem mbM_find_2 : (.fieldLink RX2 46 "SoftMapsModel" "found" "I" : Cond) ∈ wsM_find := by decide +kernel
def s_M_find (z : Nat → Int32) (fo : Int32) (v : Int32) (how : Int32) (wd : Int32) : Int32 × Int32 × Int32 :=
  if how < 0 then
    (0, (0, fo))
  else
    if how ≤ 2 then
      if (s_M_wrong z fo v how wd).1 ≤ 0 then
        ((s_M_wrong z fo v how wd).2, (0, (s_M_wrong z fo v how wd).2))
      else
        (-((s_M_wrong z fo v how wd).1), (0, (s_M_wrong z fo v how wd).2))
    else
      (0, (0, fo))
set_option maxHeartbeats 4000000 in
set_option maxRecDepth 100000 in
theorem c_M_find (l : Launch) (dC : Nat → ClassId) (dI : Nat → Nat → Nat) (sz : Nat) (k0 yb zb : Nat) (cI : ClassId) (y z : Nat → Int32) (th a1 a2 a3 a4 a5 a6 fo : Int32) (v : Int32) (how : Int32) (wd : Int32)  : Met l yM_find wsM_find ({ frames := 2, cells := 0, slots := 0, locals := 56 }) (va_Pc [.ref k0, .int v, .int how, .int wd] (fun U => U.heap.size = sz ∧ va_P (dC, dI) vwCl [(k0, .inr (2, [.int th, .ref yb, .ref zb, .int a1, .int a2, .int a3, .int a4, .int a5, .int a6, .int fo])), (yb, .inl (cI, 65536, .inl y)), (zb, .inl (cI, 33, .inl z))] U.heap ∧ va_K (dC, dI) vwCl [(cI, .int)] U ∧ va_D (fun _ => True) [(k0, .inr (2, [.int th, .ref yb, .ref zb, .int a1, .int a2, .int a3, .int a4, .int a5, .int a6, .int fo])), (yb, .inl (cI, 65536, .inl y)), (zb, .inl (cI, 33, .inl z))])) (va_Qi (fun (a_ : Int32) (u : Int32 × Int32) => (a_, u) = s_M_find z fo v how wd) (fun (u : Int32 × Int32) (t : State) => va_P (dC, dI) vwCl [(k0, .inr (2, [.int u.1, .ref yb, .ref zb, .int a1, .int a2, .int a3, .int a4, .int a5, .int a6, .int u.2])), (yb, .inl (cI, 65536, .inl y)), (zb, .inl (cI, 33, .inl z))] t.heap ∧ va_K (dC, dI) vwCl [(cI, .int)] t ∧ va_D (va_A [(k0, .inr (2, [.int th, .ref yb, .ref zb, .int a1, .int a2, .int a3, .int a4, .int a5, .int a6, .int fo])), (yb, .inl (cI, 65536, .inl y)), (zb, .inl (cI, 33, .inl z))] sz) [(k0, .inr (2, [.int u.1, .ref yb, .ref zb, .int a1, .int a2, .int a3, .int a4, .int a5, .int a6, .int u.2])), (yb, .inl (cI, 65536, .inl y)), (zb, .inl (cI, 33, .inl z))]) (va_A [(k0, .inr (2, [.int th, .ref yb, .ref zb, .int a1, .int a2, .int a3, .int a4, .int a5, .int a6, .int fo])), (yb, .inl (cI, 65536, .inl y)), (zb, .inl (cI, 33, .inl z))] sz)) 0 0 (va_A [(k0, .inr (2, [.int th, .ref yb, .ref zb, .int a1, .int a2, .int a3, .int a4, .int a5, .int a6, .int fo])), (yb, .inl (cI, 65536, .inl y)), (zb, .inl (cI, 33, .inl z))] sz) := by
  refine Met.ofW (cc := cM_find) (maxL := 5) (ret := (some .int)) (by decide) rfl ?_
  intro p e s m args below meth c s₁ B hml hv
  obtain ⟨rfl, hsz, hP, hK, hD0⟩ := hv
  have hx := B.exec
  have hb := B.bytes
  have hr := B.returns
  have hts := atoms_spec (ws := wsM_find) B.pre
  have hown : s.vm.findClass RX2 = some m.cls := findClass_of_methodNamed B.named
  have hlocks := B.notSynchronized
  subst hsz
  have hD := hD0.self (sz := s.heap.size)
  generalize hAe : va_A [(k0, .inr (2, [.int th, .ref yb, .ref zb, .int a1, .int a2, .int a3, .int a4, .int a5, .int a6, .int fo])), (yb, .inl (cI, 65536, .inl y)), (zb, .inl (cI, 33, .inl z))] s.heap.size = A at hD ⊢
  have hA : ∀ q : Nat, s.heap.size ≤ q → A q := fun q h => by rw [← hAe]; exact Or.inr h
  have hS : va_S A s.heap s.heap [] := va_S.rf
  have hP : va_P (dC, dI) vwCl [(k0, .inr (2, [.int th, .ref yb, .ref zb, .int a1, .int a2, .int a3, .int a4, .int a5, .int a6, .int fo])), (yb, .inl (cI, 65536, .inl y)), (zb, .inl (cI, 33, .inl z))] s.heap := hP
  have hl := lv_entry ([.ref k0, .int v, .int how, .int wd]) (n := 5) (Nat.le_of_ble_eq_true rfl)
  rw [lg_entry_eq]
  generalize (lg_sl ([.ref k0, .int v, .int how, .int wd]) ++ List.replicate (5 - (lg_sl ([.ref k0, .int v, .int how, .int wd])).length) Slot.unset).toArray = ls at hl ⊢
  have hl : lv_has ls 5 [(0, .ref k0), (1, .int v), (2, .int how), (3, .int wd)] := hl
  refine lv_aload_n hx hb dM_find_0 rfl (lv_at hl 0 rfl) ?_
  refine lv_iconst (v := 0) hx hb dM_find_1 (by decide) ?_
  refine va_put (D := (dC, dI)) (ci := 2) (v := .int 0) (ty := tyX2 0) (C := RX2) (T := TX2) (N := 10) hx hb hts miM_find_X2 tyX2 tyX2_ok nmX2 hown hK hP hD hS 0 rfl rfl 0 (by decide) (hts _ mbM_find_1) (fun _ h9 => h9) rfl (by decide +kernel) rfl rfl (Nat.le_of_ble_eq_true rfl) dM_find_2 (fun H locs hP hD hS => ?_)
  have hP : va_P (dC, dI) vwCl [(k0, .inr (2, [.int 0, .ref yb, .ref zb, .int a1, .int a2, .int a3, .int a4, .int a5, .int a6, .int fo])), (yb, .inl (cI, 65536, .inl y)), (zb, .inl (cI, 33, .inl z))] H := hP
  have hD : va_D A [(k0, .inr (2, [.int 0, .ref yb, .ref zb, .int a1, .int a2, .int a3, .int a4, .int a5, .int a6, .int fo])), (yb, .inl (cI, 65536, .inl y)), (zb, .inl (cI, 33, .inl z))] := hD
  refine lv_iload_n hx hb dM_find_5 rfl (lv_at hl 2 rfl) ?_
  refine lv_if_lt (tgt := 14) hx hb dM_find_6 (by decide) (fun c_1 => ?_) (fun c_1 => ?_)
  · skip
    refine lv_iconst (v := 0) hx hb dM_find_14 (by decide) ?_
    exact W.iret (v := 0) hx hb hr (fun t ht hW => ⟨⟨0, (0, fo), rfl, by simp only [s_M_find, if_pos c_1], by rw [ht]; exact hP, va_K.moved hW.alike hK, hD⟩, hS.F ht⟩) hS.2.2 dM_find_15
  · skip
    refine lv_iload_n hx hb dM_find_9 rfl (lv_at hl 2 rfl) ?_
    refine lv_iconst (v := 2) hx hb dM_find_10 (by decide) ?_
    refine lv_icmp_le (tgt := 16) hx hb dM_find_11 (by decide) (fun c_2 => ?_) (fun c_2 => ?_)
    · skip
      refine lv_aload_n hx hb dM_find_16 rfl (lv_at hl 0 rfl) ?_
      refine lv_iload_n hx hb dM_find_17 rfl (lv_at hl 1 rfl) ?_
      refine lv_iload_n hx hb dM_find_18 rfl (lv_at hl 2 rfl) ?_
      refine lv_iload_n hx hb dM_find_19 rfl (lv_at hl 3 rfl) ?_
      have hPc := hP.sub (ws' := [(k0, .inr (2, [.int 0, .ref yb, .ref zb, .int a1, .int a2, .int a3, .int a4, .int a5, .int a6, .int fo])), (yb, .inl (cI, 65536, .inl y)), (zb, .inl (cI, 33, .inl z))]) [0, 1, 2] rfl
      have hDc := hD.sub (ws' := [(k0, .inr (2, [.int 0, .ref yb, .ref zb, .int a1, .int a2, .int a3, .int a4, .int a5, .int a6, .int fo])), (yb, .inl (cI, 65536, .inl y)), (zb, .inl (cI, 33, .inl z))]) [0, 1, 2] (by decide) rfl
      have hFc := va_free (wc := [(k0, .inr (2, [.int 0, .ref yb, .ref zb, .int a1, .int a2, .int a3, .int a4, .int a5, .int a6, .int fo])), (yb, .inl (cI, 65536, .inl y)), (zb, .inl (cI, 33, .inl z))]) hD hS hA [0, 1, 2] rfl
      have hKc := hK.sub (tys' := [(cI, .int)]) [0] rfl
      refine va_calli (va_runV (As := [.int v, .int how, .int wd]) (rest := []) ⟨hx, hb, hml, hown, hts⟩ (c_M_wrong l dC dI (H.size) k0 yb zb cI y z 0 a1 a2 a3 a4 a5 a6 fo v how wd) (cwV 3 hts gM_find_M_wrong rfl rfl rfl (by decide +kernel) ⟨Nat.le_of_ble_eq_true rfl, Nat.le_of_ble_eq_true rfl⟩) ⟨fun a U g mk q => by obtain ⟨q0, q1, qP, qK, qD⟩ := q; exact ⟨q0, q1, qP, va_K.moved (u := U) (U := U.calling g mk a) (Vm.Alike.refl U.vm) qK, qD⟩, va_recv hKc hPc (ci := 2) (q0 := 0) rfl rfl, fun U hU hW => ⟨rfl, by rw [hU], by rw [hU]; exact hPc, va_K.moved hW.alike hKc, hDc.weaken (fun _ _ _ _ => trivial)⟩⟩ rfl rfl hl.1 rfl (lv_room (Nat.le_of_ble_eq_true rfl)) dM_find_20 ⟨Nat.le_of_ble_eq_true rfl, Nat.le_of_ble_eq_true rfl⟩) hS (fun q _ h => hFc q h) hFc (fun r_3 u_5 t H1 locs ht hvm hw_4 hB hz1 hk1 hS => ?_)
      have e1_ : r_3 = (s_M_wrong z fo v how wd).1 := congrArg Prod.fst hw_4
      have e2_ : u_5 = (s_M_wrong z fo v how wd).2 := congrArg Prod.snd hw_4
      subst e1_ e2_
      obtain ⟨hP1, hK1, hD1⟩ := hB
      rw [ht] at hP1
      obtain ⟨hP, hD⟩ := va_join (wr := []) (w1 := [(k0, .inr (2, [.int 0, .ref yb, .ref zb, .int a1, .int a2, .int a3, .int a4, .int a5, .int a6, .int ((s_M_wrong z fo v how wd).2)])), (yb, .inl (cI, 65536, .inl y)), (zb, .inl (cI, 33, .inl z))]) hP hD [0, 1, 2] [] rfl rfl (by decide) (by decide) hk1 hFc hP1 hD1
      generalize H1 = H at hP hS ⊢
      have hP : va_P (dC, dI) vwCl [(k0, .inr (2, [.int 0, .ref yb, .ref zb, .int a1, .int a2, .int a3, .int a4, .int a5, .int a6, .int ((s_M_wrong z fo v how wd).2)])), (yb, .inl (cI, 65536, .inl y)), (zb, .inl (cI, 33, .inl z))] H := hP
      have hD : va_D A [(k0, .inr (2, [.int 0, .ref yb, .ref zb, .int a1, .int a2, .int a3, .int a4, .int a5, .int a6, .int ((s_M_wrong z fo v how wd).2)])), (yb, .inl (cI, 65536, .inl y)), (zb, .inl (cI, 33, .inl z))] := hD
      refine lv_istore (lv' := [(4, .int ((s_M_wrong z fo v how wd).1)), (0, .ref k0), (1, .int v), (2, .int how), (3, .int wd)]) hx hb dM_find_23 hl (by decide) rfl (fun ls hl => ?_)
      refine lv_iload hx hb dM_find_25 (lv_at hl 0 rfl) ?_
      refine lv_if_le (tgt := 36) hx hb dM_find_27 (by decide) (fun c_6 => ?_) (fun c_6 => ?_)
      · skip
        refine lv_aload_n hx hb dM_find_36 rfl (lv_at hl 1 rfl) ?_
        refine va_get (D := (dC, dI)) (ci := 2) (v := .int ((s_M_wrong z fo v how wd).2)) (C := RX2) (T := TX2) (N := 10) hx hb hts miM_find_X2 hown hK hP 0 rfl rfl 9 (by decide) (hts _ mbM_find_2) (fun _ h9 => h9) rfl dM_find_37 ?_
        exact W.iret (v := (s_M_wrong z fo v how wd).2) hx hb hr (fun t ht hW => ⟨⟨(s_M_wrong z fo v how wd).2, (0, (s_M_wrong z fo v how wd).2), rfl, by simp only [s_M_find, if_neg c_1, if_pos c_2, if_pos c_6], by rw [ht]; exact hP, va_K.moved hW.alike hK, hD⟩, hS.F ht⟩) hS.2.2 dM_find_40
      · skip
        refine lv_iload hx hb dM_find_30 (lv_at hl 0 rfl) ?_
        refine lv_ineg hx hb dM_find_32 ?_
        refine lv_goto (tgt := 40) hx hb dM_find_33 (by decide) ?_
        exact W.iret (v := -((s_M_wrong z fo v how wd).1)) hx hb hr (fun t ht hW => ⟨⟨-((s_M_wrong z fo v how wd).1), (0, (s_M_wrong z fo v how wd).2), rfl, by simp only [s_M_find, if_neg c_1, if_pos c_2, if_neg c_6], by rw [ht]; exact hP, va_K.moved hW.alike hK, hD⟩, hS.F ht⟩) hS.2.2 dM_find_40
    · skip
      refine lv_iconst (v := 0) hx hb dM_find_14 (by decide) ?_
      exact W.iret (v := 0) hx hb hr (fun t ht hW => ⟨⟨0, (0, fo), rfl, by simp only [s_M_find, if_neg c_1, if_neg c_2], by rw [ht]; exact hP, va_K.moved hW.alike hK, hD⟩, hS.F ht⟩) hS.2.2 dM_find_15
