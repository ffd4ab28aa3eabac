/-! Own words: call by call, the class's answer is the reference's, and so is the state behind it. -/
theorem w_small : ∀ w, w < 11 → 0 < w → ¬ (0 : Int32) ≤ -nI w ∧ -(-nI w) = nI w ∧ ¬ nI w ≤ 0 ∧ ¬ nI w = 0 := by decide +kernel
theorem pr_both {f : Nat → Int32} (hq : md_ok f) (fa fl fd fo v how wd wx : Int32) (hx : wx = 0 ↔ (wd = 0 ∧ ¬ how = 0)) : (∃ N : Nat, N < 65536 ∧ (¬ wx = 0 → N % 4 = 0) ∧ s_X1_probe f fa fl fd v how wx = (nI N, (fa, fl, fd)) ∧ s_M_probe f fa fl fd fo v how wd = (1, (fa, fl, fd, nI N))) ∨ (∃ (w : Nat) (fo' : Int32), 0 < w ∧ w ≤ 10 ∧ s_X1_probe f fa fl fd v how wx = (-nI w, (fa + 1, nI w, v)) ∧ s_M_probe f fa fl fd fo v how wd = (0, (fa + 1, nI w, v, fo'))) := by
  rcases core (fo := fo) (v := v) hq hx with ⟨N, h1, h2, h3, h4⟩ | ⟨w, f2, h1, h2, h3, h4⟩
  · refine Or.inl ⟨N, h1, h4, ?_, ?_⟩
    · unfold s_X1_probe
      rw [h3, if_pos (nI_pos' (by omega))]
    · unfold s_M_probe
      rw [h2]
      dsimp only
      rw [if_pos (by decide), if_pos rfl]
  · obtain ⟨q1, q2, q3, q4⟩ := w_small w (by omega) h1
    refine Or.inr ⟨w, f2, h1, h2, ?_, ?_⟩
    · unfold s_X1_probe
      rw [h4, if_neg q1, q2]
    · unfold s_M_probe
      rw [h3]
      dsimp only
      rw [if_neg q3, if_neg q4]
theorem code_eq {f M y : Nat → Int32} (hq : md_ok f) (hb : brel M y) (fa fl fd cr fo v : Int32) : ∃ fo', s_M_code y f fa fl fd cr fo v = ((s_X1_code f M fa fl fd cr v).1, 0, (s_X1_code f M fa fl fd cr v).2.1, (s_X1_code f M fa fl fd cr v).2.2.1, (s_X1_code f M fa fl fd cr v).2.2.2.1, (s_X1_code f M fa fl fd cr v).2.2.2.2, fo') := by
  rcases pr_both hq fa fl fd fo v 0 1 1 ⟨fun q => absurd q (by decide), fun q => absurd q.1 (by decide)⟩ with ⟨N, h1, h2, hX, hM⟩ | ⟨w, f2, h1, h2, hX, hM⟩
  · refine ⟨nI N, ?_⟩
    unfold s_M_code s_X1_code
    rw [hX, hM]
    dsimp only
    rw [if_neg (by decide), if_pos (nI_pos' (by omega))]
    dsimp only
    rw [wordIn_eq hb h1 (h2 (by decide))]
  · refine ⟨f2, ?_⟩
    unfold s_M_code s_X1_code
    rw [hX, hM]
    dsimp only
    rw [if_pos rfl, if_neg (w_small w (by omega) h1).1]
theorem wd_ok (wd : Int32) (how : Int32) (hh : ¬ how = 0) : wd = 0 ↔ (wd = 0 ∧ ¬ how = 0) := ⟨fun q => ⟨q, hh⟩, fun q => q.1⟩
theorem load_eq {f M y : Nat → Int32} (hq : md_ok f) (hb : brel M y) (fa fl fd lo fo v wd : Int32) : ∃ fo', s_M_load y f fa fl fd lo fo v wd = ((s_X1_load f M fa fl fd lo v wd).1, 0, (s_X1_load f M fa fl fd lo v wd).2.1, (s_X1_load f M fa fl fd lo v wd).2.2.1, (s_X1_load f M fa fl fd lo v wd).2.2.2.1, (s_X1_load f M fa fl fd lo v wd).2.2.2.2, fo') := by
  rcases pr_both hq fa fl fd fo v 1 wd wd (wd_ok wd 1 (by decide)) with ⟨N, h1, h2, hX, hM⟩ | ⟨w, f2, h1, h2, hX, hM⟩
  · refine ⟨nI N, ?_⟩
    unfold s_M_load s_X1_load
    rw [hX, hM]
    dsimp only
    rw [if_neg (by decide), if_pos (nI_pos' (by omega))]
    by_cases hw : wd = 0
    · rw [if_pos hw, if_pos hw]
      dsimp only
      rw [byteAt_eq hb h1]
    · rw [if_neg hw, if_neg hw]
      dsimp only
      rw [wordIn_eq hb h1 (h2 hw)]
  · refine ⟨f2, ?_⟩
    unfold s_M_load s_X1_load
    rw [hX, hM]
    dsimp only
    rw [if_pos rfl, if_neg (w_small w (by omega) h1).1]
theorem store_eq {f M y : Nat → Int32} (hq : md_ok f) (hb : brel M y) (fa fl fd so fo v w wd : Int32) : ∃ (fo' : Int32) (y' : Nat → Int32), brel (s_X1_store f M fa fl fd so v w wd).2.2 y' ∧ s_M_store y f fa fl fd so fo v w wd = ((s_X1_store f M fa fl fd so v w wd).1, 0, y', (s_X1_store f M fa fl fd so v w wd).2.1.1, (s_X1_store f M fa fl fd so v w wd).2.1.2.1, (s_X1_store f M fa fl fd so v w wd).2.1.2.2.1, (s_X1_store f M fa fl fd so v w wd).2.1.2.2.2, fo') := by
  rcases pr_both hq fa fl fd fo v 2 wd wd (wd_ok wd 2 (by decide)) with ⟨N, h1, h2, hX, hM⟩ | ⟨k, f2, h1, h2, hX, hM⟩
  · by_cases hw : wd = 0
    · refine ⟨nI N, upd y (nI N).toNatClampNeg (w &&& 255), ?_, ?_⟩
      · unfold s_X1_store
        rw [hX]
        dsimp only
        rw [if_pos (nI_pos' (by omega)), if_pos hw]
        exact pb_rel hb h1 w
      · unfold s_M_store s_X1_store
        rw [hX, hM]
        dsimp only
        rw [if_neg (by decide), if_pos (nI_pos' (by omega)), if_pos hw, if_pos hw]
    · refine ⟨nI N, s_M_lay y (nI N) w, ?_, ?_⟩
      · unfold s_X1_store
        rw [hX]
        dsimp only
        rw [if_pos (nI_pos' (by omega)), if_neg hw]
        exact lay_rel hb h1 (h2 hw) w
      · unfold s_M_store s_X1_store
        rw [hX, hM]
        dsimp only
        rw [if_neg (by decide), if_pos (nI_pos' (by omega)), if_neg hw, if_neg hw]
  · refine ⟨f2, y, ?_, ?_⟩
    · unfold s_X1_store
      rw [hX]
      dsimp only
      rw [if_neg (w_small k (by omega) h1).1]
      exact hb
    · unfold s_M_store s_X1_store
      rw [hX, hM]
      dsimp only
      rw [if_pos rfl, if_neg (w_small k (by omega) h1).1]
theorem find_eq {f : Nat → Int32} (hq : md_ok f) (fo v how wd : Int32) : ∃ fo', s_M_find f fo v how wd = (s_X1_find f v how wd, 0, fo') := by
  unfold s_M_find s_X1_find
  by_cases h0 : how < 0
  · exact ⟨fo, by rw [if_pos h0, if_pos h0]⟩
  · rw [if_neg h0, if_neg h0]
    by_cases h2 : how ≤ 2
    · rw [if_pos h2, if_pos h2]
      have key : ∀ wx : Int32, (wx = 0 ↔ (wd = 0 ∧ ¬ how = 0)) → ∃ fo', (if (s_M_wrong f fo v how wd).1 ≤ 0 then ((s_M_wrong f fo v how wd).2, (0, (s_M_wrong f fo v how wd).2)) else (-((s_M_wrong f fo v how wd).1), (0, (s_M_wrong f fo v how wd).2))) = (s_X1_locate f v how wx, ((0 : Int32), fo')) := by
        intro wx hx
        rcases core (fo := fo) (v := v) hq hx with ⟨N, g1, g2, g3, g4⟩ | ⟨w, f2, g1, g2, g3, g4⟩
        · refine ⟨nI N, ?_⟩
          rw [g2, g3]
          dsimp only
          rw [if_pos (by decide)]
        · refine ⟨f2, ?_⟩
          rw [g3, g4]
          dsimp only
          rw [if_neg (w_small w (by omega) g1).2.2.1]
      by_cases hw : wd = 0
      · rw [if_pos hw]
        by_cases hh : how = 0
        · rw [if_pos hh]
          exact key 1 ⟨fun q => absurd q (by decide), fun q => absurd hh q.2⟩
        · rw [if_neg hh]
          exact key 0 ⟨fun _ => ⟨hw, hh⟩, fun _ => rfl⟩
      · rw [if_neg hw]
        exact key 1 ⟨fun q => absurd q (by decide), fun q => absurd q.1 hw⟩
    · exact ⟨fo, by rw [if_neg h2, if_neg h2]⟩
theorem lt_le (x : Int32) (a b : Int32) (h : b.toInt = a.toInt + 1) : (b ≤ x) ↔ ¬ x ≤ a := by
  rw [Int32.le_iff_toInt_le, Int32.le_iff_toInt_le]
  omega
theorem set_eq (f : Nat → Int32) (k w : Int32) : s_M_set f k w = ((s_X1_set f k w).1, 0, (s_X1_set f k w).2) := by
  unfold s_M_set s_X1_set s_X1_isSpecial
  by_cases h0 : k < 0
  · simp only [if_pos h0]
    rfl
  · simp only [if_neg h0]
    by_cases h2 : k ≤ 32
    · have h3 : ¬ (33 : Int32) ≤ k := fun q => (lt_le k 32 33 (by decide)).mp q h2
      simp only [if_pos h2, if_neg h3]
      rw [if_neg (by decide : ¬ (1 : Int32) = 0)]
      by_cases h4 : k = 32
      · simp only [if_pos h4]
      · simp only [if_neg h4]
    · have h3 : (33 : Int32) ≤ k := (lt_le k 32 33 (by decide)).mpr h2
      simp only [if_neg h2, if_pos h3]
      rfl
theorem md_upd {f : Nat → Int32} (h : md_ok f) {i : Nat} (hi : i ≠ 32) (x : Int32) : md_ok (upd f i x) := by
  obtain ⟨t, h1, h2⟩ := h
  exact ⟨t, h1, by rw [pk_un (Ne.symm hi)]; exact h2⟩
theorem md_set {f : Nat → Int32} (h : md_ok f) (k w : Int32) : md_ok (s_X1_set f k w).2 := by
  unfold s_X1_set
  split
  · exact h
  · rename_i hk
    split
    · rename_i h4
      rw [h4]
      obtain ⟨j, hj, e⟩ := pk_andE w (m := 7) 3 (by decide)
      exact ⟨j, hj, by dsimp only; rw [c32, pk_us]; exact e⟩
    · rename_i h4
      refine md_upd h ?_ w
      intro q
      obtain ⟨j, hj, e⟩ := vp_in_of (in_k hk) (by decide)
      rw [e, nI_clamp (by omega)] at q
      exact h4 (by rw [e, q]; rfl)
theorem nat_hi1 {B : Nat} (hB : B < 2 ^ 32) : B &&& (2 ^ 32 - 2) = B / 2 * 2 := by
  apply Nat.eq_of_testBit_eq
  intro i
  have e1 : (2 ^ 32 - 2 : Nat) = (2 ^ 31 - 1) * 2 ^ 1 := by decide
  have e2 : B / 2 * 2 = B / 2 ^ 1 * 2 ^ 1 := rfl
  rw [Nat.testBit_and, e1, e2, Nat.testBit_mul_two_pow, Nat.testBit_mul_two_pow, Nat.testBit_two_pow_sub_one, Nat.testBit_div_two_pow]
  by_cases h : 1 ≤ i
  · rw [show i - 1 + 1 = i by omega]
    by_cases h2 : i - 1 < 31
    · simp [h, h2]
    · have h3 : B.testBit i = false := Nat.testBit_lt_two_pow (Nat.lt_of_lt_of_le hB (Nat.pow_le_pow_right (by omega) (by omega)))
      simp [h3]
  · simp [h]
theorem ev_eq (x : Int32) : x &&& (-2) = x - (x &&& 1) := by
  obtain ⟨n, hn, rfl, -⟩ := i_n x
  have e0 : (-2 : Int32) = nI (2 ^ 32 - 2) := by decide
  rw [pk_andN (m := 1) hn 1 (by decide), e0, nx_and, nat_hi1 hn, pk_sub (by omega)]
  congr 1
  omega
theorem clr_eq (f : Nat → Int32) (b : Int32) : ∀ i, s_clr f b i = s_mclr f b i := by
  intro i
  induction i with
  | zero => rfl
  | succ i ih =>
    unfold s_clr s_mclr
    rw [ih, ev_eq]
theorem cnt_s (f : Nat → Int32) (b : Int32) (i : Nat) : s_cnt f b (i + 1) = s_cnt f b i + (f (b + nI i).toNatClampNeg &&& 1) := by
  have e : s_cnt f b (i + 1) = if s_X1_isOdd (f (b + nI i).toNatClampNeg) = 0 then s_cnt f b i else s_cnt f b i + 1 := rfl
  rw [e]
  unfold s_X1_isOdd
  obtain ⟨j, hj, e2⟩ := pk_andE (f (b + nI i).toNatClampNeg) (m := 1) 1 (by decide)
  rw [e2]
  rcases (by omega : j = 0 ∨ j = 1) with rfl | rfl
  · rw [if_pos (show (if nI 0 = 0 then (0 : Int32) else 1) = 0 by decide)]
    exact (Int32.add_zero _).symm
  · rw [if_neg (show ¬ (if nI 1 = 0 then (0 : Int32) else 1) = 0 by decide)]
    rfl
theorem cnt_eq (f : Nat → Int32) (b : Int32) : s_cnt f b 8 = s_M_matched f b := by
  rw [cnt_s, cnt_s, cnt_s, cnt_s, cnt_s, cnt_s, cnt_s, cnt_s]
  rfl
theorem forget_eq (f : Nat → Int32) (dd : Int32) : s_M_forget f dd = ((s_X1_forget f dd).1, 0, (s_X1_forget f dd).2) := by
  unfold s_M_forget s_X1_forget s_X1_countMatches s_X1_firstMatch
  rw [cnt_eq, clr_eq]
  by_cases h : dd = 0
  · simp only [if_pos h]
  · simp only [if_neg h]
theorem md_clr {f : Nat → Int32} (h : md_ok f) (dd : Int32) : ∀ i, i ≤ 8 → md_ok (s_clr f (s_X1_firstMatch dd) i) := by
  intro i
  induction i with
  | zero => exact fun _ => h
  | succ i ih =>
    intro hi
    unfold s_clr
    refine md_upd (ih (by omega)) ?_ _
    rcases fm_n dd with e | e
    · rw [e, nI_add, nI_clamp (by omega)]; omega
    · rw [e, nI_add, nI_clamp (by omega)]; omega
theorem md_forget {f : Nat → Int32} (h : md_ok f) (dd : Int32) : md_ok (s_X1_forget f dd).2 := md_clr h dd 8 (Nat.le_refl 8)
theorem special_eq (f : Nat → Int32) (k : Int32) : s_M_special f k = (s_X1_special f k, 0) := by
  unfold s_M_special s_X1_special s_X1_isSpecial
  by_cases h0 : k < 0
  · simp only [if_pos h0]
    rfl
  · simp only [if_neg h0]
    by_cases h2 : k ≤ 32
    · have h3 : ¬ (33 : Int32) ≤ k := fun q => (lt_le k 32 33 (by decide)).mp q h2
      simp only [if_pos h2, if_neg h3]
      rw [if_neg (by decide : ¬ (1 : Int32) = 0)]
    · have h3 : (33 : Int32) ≤ k := (lt_le k 32 33 (by decide)).mpr h2
      simp only [if_neg h2, if_pos h3]
      rfl
theorem wp_eq (p : Int32) : (s_X1_isWordPlace p = 0) ↔ (s_M_isWordPlace p = 0) := by
  unfold s_X1_isWordPlace s_M_isWordPlace
  by_cases h0 : p < 0
  · simp only [if_pos h0]
  · by_cases h1 : (65536 : Int32) ≤ p
    · simp only [if_neg h0, if_pos h1]
    · simp only [if_neg h0, if_neg h1]
      obtain ⟨n, hn, rfl⟩ := pl_n h0 h1
      have e4 : (nI n - nI n / 4 * 4 = 0) ↔ n % 4 = 0 := by
        rw [show (4 : Int32) = nI 4 from rfl, pk_rem (by omega) (by omega) (by omega)]
        exact nI_e0 (by omega)
      simp only [al_x (show n < 2 ^ 32 by omega), e4]
      by_cases h : n % 4 = 0 <;> simp [h]
theorem word_eq {M y : Nat → Int32} (hb : brel M y) (p : Int32) : s_M_word y p = (s_X1_word M p, 0) := by
  unfold s_M_word s_X1_word
  by_cases h : s_X1_isWordPlace p = 0
  · rw [if_pos h, if_pos ((wp_eq p).mp h)]
  · have h2 : ¬ s_M_isWordPlace p = 0 := fun q => h ((wp_eq p).mpr q)
    rw [if_neg h, if_neg h2]
    obtain ⟨n, h3, h4, rfl⟩ := mwp_n h2
    rw [wordIn_eq hb h3 h4]
theorem poke_eq {M y : Nat → Int32} (hb : brel M y) (p w : Int32) : ∃ y', brel (s_X1_poke M p w).2 y' ∧ s_M_poke y p w = ((s_X1_poke M p w).1, 0, y') := by
  unfold s_M_poke s_X1_poke
  by_cases h : s_X1_isWordPlace p = 0
  · rw [if_pos h, if_pos ((wp_eq p).mp h)]
    exact ⟨y, hb, rfl⟩
  · have h2 : ¬ s_M_isWordPlace p = 0 := fun q => h ((wp_eq p).mpr q)
    rw [if_neg h, if_neg h2]
    obtain ⟨n, h3, h4, rfl⟩ := mwp_n h2
    exact ⟨_, lay_rel hb h3 h4 w, rfl⟩
theorem look_eq (f : Nat → Int32) (fa fl fd cr lo so k : Int32) : s_M_look f fa fl fd cr lo so k = (s_X1_look f fa fl fd cr lo so k, 0) := by
  have c0 : s_X1_countMatches f 0 = s_M_matched f 0 := cnt_eq f 0
  have c1 : s_X1_countMatches f 1 = s_M_matched f 16 := cnt_eq f 16
  unfold s_M_look s_X1_look
  rw [c0, c1]
  (repeat' split) <;> rfl
theorem shl_eq (v : Int32) : (v >>> ((10 : Int32) &&& 31)) <<< ((10 : Int32) &&& 31) = v &&& (-1024) := by
  obtain ⟨n, hn, rfl, en⟩ := i_n v
  have e0 : (-1024 : Int32) = nI (2 ^ 32 - 1024) := by decide
  rw [e0, nx_and, nat_hi hn]
  apply Int32.toBitVec_inj.mp
  apply BitVec.eq_of_toNat_eq
  rw [pk_shl _ _ 10 (by decide), pk_tn (by omega)]
  have h := pk_shr (nI n) ((10 : Int32) &&& 31) 10 (by decide)
  rw [Int.shiftRight_eq_div_pow] at h
  have e1 : (nI n >>> ((10 : Int32) &&& 31)).toInt = if 2 * (nI n >>> ((10 : Int32) &&& 31)).toBitVec.toNat < 2 ^ 32 then ((nI n >>> ((10 : Int32) &&& 31)).toBitVec.toNat : Int) else ((nI n >>> ((10 : Int32) &&& 31)).toBitVec.toNat : Int) - (2 ^ 32 : Nat) := BitVec.toInt_eq_toNat_cond _
  have h1 := (nI n >>> ((10 : Int32) &&& 31)).toBitVec.isLt
  have e2 := nI_ti hn
  generalize (nI n >>> ((10 : Int32) &&& 31)).toBitVec.toNat = X at *
  rw [e1, e2] at h
  split at h <;> split at h <;> omega
theorem pl_eq {fr ri : Int32} (h0 : ¬ fr < 0) (h1 : ¬ 64 ≤ fr) (h2 : ¬ ri < 0) (h3 : ri < 16) : (fr <<< ((10 : Int32) &&& 31)) ||| ri = (1024 * fr) + ri := by
  obtain ⟨a, ha, rfl⟩ := lt_n (n := 64) (by decide) h0 h1
  obtain ⟨b, hb, rfl⟩ := lt_n (n := 16) (by decide) h2 (Int32.not_le.mpr h3)
  rw [pk_shlN _ 10 (by decide) (by omega), nx_or, show (1024 : Int32) = nI 1024 from rfl, pk_mul, nI_add]
  congr 1
  have h := Nat.two_pow_add_eq_or_of_lt (i := 10) (b := b) (by omega) a
  rw [show a * 2 ^ 10 = 2 ^ 10 * a by omega, ← h]
theorem so_eq (v : Int32) : ush v 10 - ush v 10 / 8 * 8 = s_X1_setOf v := by
  obtain ⟨n, hn, rfl, -⟩ := i_n v
  rw [so_e hn, ush_N hn 10 10 (by decide), show (8 : Int32) = nI 8 from rfl, pk_rem (by omega) (by omega) (by omega)]
theorem map_eq (f : Nat → Int32) (v fr ri dd : Int32) : s_M_map f v fr ri dd = ((s_X1_map f v fr ri dd).1, 0, (s_X1_map f v fr ri dd).2) := by
  unfold s_M_map s_X1_map
  by_cases h0 : fr < 0
  · simp only [if_pos h0]
  · by_cases h1 : (64 : Int32) ≤ fr
    · have h1' : (63 : Int32) < fr := by
        rw [Int32.lt_iff_toInt_lt]
        rw [Int32.le_iff_toInt_le] at h1
        have e1 : (64 : Int32).toInt = 64 := by decide
        have e2 : (63 : Int32).toInt = 63 := by decide
        omega
      simp only [if_neg h0, if_pos h1, if_pos h1']
    · have h1' : ¬ (63 : Int32) < fr := by
        rw [Int32.lt_iff_toInt_lt]
        rw [Int32.le_iff_toInt_le] at h1
        have e1 : (64 : Int32).toInt = 64 := by decide
        have e2 : (63 : Int32).toInt = 63 := by decide
        omega
      by_cases h2 : ri < 0
      · simp only [if_neg h0, if_neg h1, if_neg h1', if_pos h2]
      · by_cases h3 : ri < 16
        · have h3' : ri ≤ 15 := by
            rw [Int32.le_iff_toInt_le]
            rw [Int32.lt_iff_toInt_lt] at h3
            have e1 : (16 : Int32).toInt = 16 := by decide
            have e2 : (15 : Int32).toInt = 15 := by decide
            omega
          simp only [if_neg h0, if_neg h1, if_neg h1', if_neg h2, if_pos h3, if_pos h3', so_eq, shl_eq, pl_eq h0 h1 h2 h3]
          obtain ⟨j, hj, e⟩ := so_n v
          have g : ∀ (a : Nat) (A : Int32), a ≤ 16 → A = nI a → (A + s_X1_setOf v + 8).toNatClampNeg = (A + 8 + s_X1_setOf v).toNatClampNeg := by
            intro a A ha hA
            rw [hA, e, show (8 : Int32) = nI 8 from rfl, nI_add, nI_add, nI_add, nI_add]
            congr 2
            omega
          unfold s_X1_firstMatch
          by_cases h4 : dd = 0
          · simp only [if_pos h4]
            rw [g 0 0 (by decide) rfl]
          · simp only [if_neg h4]
            rw [g 16 16 (by decide) rfl]
        · have h3' : ¬ ri ≤ 15 := by
            rw [Int32.le_iff_toInt_le]
            rw [Int32.lt_iff_toInt_lt] at h3
            have e1 : (16 : Int32).toInt = 16 := by decide
            have e2 : (15 : Int32).toInt = 15 := by decide
            omega
          simp only [if_neg h0, if_neg h1, if_neg h1', if_neg h2, if_neg h3, if_neg h3']
theorem md_map {f : Nat → Int32} (h : md_ok f) (v fr ri dd : Int32) : md_ok (s_X1_map f v fr ri dd).2 := by
  obtain ⟨j, hj, e⟩ := ix_n dd v
  unfold s_X1_map
  (repeat' split) <;> first | exact h | skip
  dsimp only
  refine md_upd (md_upd h ?_ _) ?_ _
  · rw [e, nI_clamp (by omega)]; omega
  · rw [e, show (8 : Int32) = nI 8 from rfl, nI_add, nI_clamp (by omega)]; omega
