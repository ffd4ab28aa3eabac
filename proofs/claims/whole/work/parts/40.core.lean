/-! Own words: what the class's locate and the reference's wrong find is one thing. -/
def md_ok (z : Nat → Int32) : Prop := ∃ t : Nat, t < 8 ∧ z 32 = nI t
theorem c32 : (32 : Int32).toNatClampNeg = 32 := by decide
theorem nx_and (a b : Nat) : nI a &&& nI b = nI (a &&& b) := by
  apply Int32.toBitVec_inj.1
  show BitVec.ofNat 32 a &&& BitVec.ofNat 32 b = BitVec.ofNat 32 (a &&& b)
  apply BitVec.eq_of_getLsbD_eq
  intro i hi
  simp [hi]
theorem nx_or (a b : Nat) : nI a ||| nI b = nI (a ||| b) := by
  apply Int32.toBitVec_inj.1
  show BitVec.ofNat 32 a ||| BitVec.ofNat 32 b = BitVec.ofNat 32 (a ||| b)
  apply BitVec.eq_of_getLsbD_eq
  intro i hi
  simp [hi]
theorem nI_ti {n : Nat} (h : n < 2 ^ 32) : (nI n).toInt = if n < 2 ^ 31 then (n : Int) else (n : Int) - 2 ^ 32 := by
  have e := BitVec.toInt_eq_toNat_cond (BitVec.ofNat 32 n)
  rw [BitVec.toNat_ofNat, Nat.mod_eq_of_lt h] at e
  have e2 : (nI n).toInt = (BitVec.ofNat 32 n).toInt := rfl
  rw [e2, e]
  split <;> split <;> omega
theorem nI_e0 {n : Nat} (h : n < 2 ^ 31) : nI n = 0 ↔ n = 0 := nI_eq (b := 0) h (by omega)
theorem nat_bt (B k : Nat) : B &&& 2 ^ k = 0 ↔ B / 2 ^ k % 2 = 0 := by
  have e : B.testBit k = decide (B / 2 ^ k % 2 = 1) := Nat.testBit_eq_decide_div_mod_eq
  constructor
  · intro h
    have h1 : (B &&& 2 ^ k).testBit k = false := by rw [h]; exact Nat.zero_testBit k
    rw [Nat.testBit_and, Nat.testBit_two_pow_self, Bool.and_true, e] at h1
    have := of_decide_eq_false h1
    omega
  · intro h
    apply Nat.eq_of_testBit_eq
    intro i
    rw [Nat.testBit_and, Nat.zero_testBit, Nat.testBit_two_pow]
    by_cases hi : k = i
    · subst hi
      rw [e, decide_eq_false (by omega)]; rfl
    · simp [hi]
theorem xr (B k : Nat) (hk : k < 4) (K : Int32) (hK : K = nI (2 ^ k)) : (nI B &&& K = 0) ↔ B / 2 ^ k % 2 = 0 := by
  subst hK
  rw [nx_and, nI_e0, nat_bt]
  have h1 : B &&& 2 ^ k ≤ 2 ^ k := Nat.and_le_right
  have h2 : 2 ^ k ≤ 2 ^ 4 := Nat.pow_le_pow_right (by omega) (by omega)
  omega
theorem nat_hi {B : Nat} (hB : B < 2 ^ 32) : B &&& (2 ^ 32 - 1024) = B / 1024 * 1024 := by
  apply Nat.eq_of_testBit_eq
  intro i
  have e1 : (2 ^ 32 - 1024 : Nat) = (2 ^ 22 - 1) * 2 ^ 10 := by decide
  have e2 : B / 1024 * 1024 = B / 2 ^ 10 * 2 ^ 10 := rfl
  rw [Nat.testBit_and, e1, e2, Nat.testBit_mul_two_pow, Nat.testBit_mul_two_pow, Nat.testBit_two_pow_sub_one, Nat.testBit_div_two_pow]
  by_cases h : 10 ≤ i
  · rw [show i - 10 + 10 = i by omega]
    by_cases h2 : i - 10 < 22
    · simp [h, h2]
    · have h3 : B.testBit i = false := Nat.testBit_lt_two_pow (Nat.lt_of_lt_of_le hB (Nat.pow_le_pow_right (by omega) (by omega)))
      simp [h3]
  · simp [h]
theorem pl_join {B n : Nat} (hB : B < 2 ^ 32) (hn : n < 2 ^ 32) : (nI B &&& (-1024)) ||| (nI n &&& 1023) = nI (B / 1024 * 1024 + n % 1024) := by
  have e0 : (-1024 : Int32) = nI (2 ^ 32 - 1024) := by decide
  rw [e0, nx_and, nat_hi hB, pk_andN hn 10 (by decide), nx_or]
  have h := Nat.two_pow_add_eq_or_of_lt (i := 10) (b := n % 2 ^ 10) (Nat.mod_lt _ (by decide)) (B / 1024)
  have e1 : B / 1024 * 1024 = 2 ^ 10 * (B / 1024) := by omega
  rw [e1, ← h]
theorem tail_eq (how : Int32) {N : Nat} (hN : N < 2 ^ 32) : (N < 65536 ∧ s_b232 how (lN N) = (0, nI N) ∧ s_X1_within (nI N) how = nI N) ∨ (s_b232 how (lN N) = (2, 0) ∧ s_X1_within (nI N) how = -2) := by
  have c1 : (lg_cmp (lN N) 32768 < 0) = (N < 32768) := propext (by rw [lg_cmp_lt]; exact pk_lLT (b := 32768) (by omega) (by omega))
  have c2 : (0 ≤ lg_cmp (lN N) 65536) = (65536 ≤ N) := propext (by rw [lg_cmp_ge]; exact pk_lLE (a := 65536) (by omega) (by omega))
  have c3 : (0 ≤ lg_cmp (lN N) 32768) = (32768 ≤ N) := propext (by rw [lg_cmp_ge]; exact pk_lLE (a := 32768) (by omega) (by omega))
  have z0 : (0 : Int32).toInt = 0 := by decide
  have z1 : (32768 : Int32).toInt = 32768 := by decide
  have z2 : (65536 : Int32).toInt = 65536 := by decide
  have w0 : (nI N < 0) = (2 ^ 31 ≤ N) := propext (by rw [Int32.lt_iff_toInt_lt, nI_ti hN, z0]; split <;> omega)
  have w1 : (nI N < 32768) = (N < 32768 ∨ 2 ^ 31 ≤ N) := propext (by rw [Int32.lt_iff_toInt_lt, nI_ti hN, z1]; split <;> omega)
  have w2 : (32768 ≤ nI N) = (32768 ≤ N ∧ N < 2 ^ 31) := propext (by rw [Int32.le_iff_toInt_le, nI_ti hN, z1]; split <;> omega)
  have w3 : (65536 ≤ nI N) = (65536 ≤ N ∧ N < 2 ^ 31) := propext (by rw [Int32.le_iff_toInt_le, nI_ti hN, z2]; split <;> omega)
  unfold s_b232 s_X1_within
  simp only [c1, c2, c3, w0, w1, w2, w3, lN_i]
  by_cases h0 : how = 0
  · have h2 : ¬ how = 2 := by rw [h0]; decide
    simp only [if_pos h0, if_neg h2]
    by_cases hA : N < 32768
    · exact Or.inl ⟨by omega, by rw [if_pos hA], by rw [if_neg (by omega), if_neg (by omega)]⟩
    · refine Or.inr ⟨by rw [if_neg hA], ?_⟩
      by_cases hB : 2 ^ 31 ≤ N
      · rw [if_pos hB]
      · rw [if_neg hB, if_pos (by omega)]
  · simp only [if_neg h0]
    by_cases hA : 65536 ≤ N
    · refine Or.inr ⟨by rw [if_pos hA], ?_⟩
      by_cases h2 : how = 2
      · rw [if_pos h2]
        by_cases hB : 2 ^ 31 ≤ N
        · rw [if_pos (Or.inr hB)]
        · rw [if_neg (by omega), if_pos (by omega)]
      · rw [if_neg h2]
        by_cases hB : 2 ^ 31 ≤ N
        · rw [if_pos hB]
        · rw [if_neg hB, if_pos (by omega)]
    · by_cases h2 : how = 2
      · simp only [if_pos h2, if_neg hA]
        by_cases hB : 32768 ≤ N
        · exact Or.inl ⟨by omega, by rw [if_pos hB], by rw [if_neg (by omega), if_neg (by omega)]⟩
        · exact Or.inr ⟨by rw [if_neg hB], by rw [if_pos (by omega)]⟩
      · simp only [if_neg h2, if_neg hA]
        exact Or.inl ⟨by omega, by first | rfl | trivial, by rw [if_neg (by omega), if_neg (by omega)]⟩
theorem md_1 : ∀ t, t < 8 → ((nI t &&& 2 = 0) ↔ t / 2 % 2 = 0) ∧ ((nI t &&& 4 = 0) ↔ t / 4 % 2 = 0) ∧ ((nI t &&& 1 = 0) ↔ t % 2 = 0) := by decide +kernel
theorem md_2 : ∀ t, t < 8 → ((nI t / 2 - nI t / 2 / 2 * 2 = 1) ↔ ¬ t / 2 % 2 = 0) ∧ ((nI t / 4 - nI t / 4 / 2 * 2 = 1) ↔ ¬ t / 4 % 2 = 0) ∧ ((nI t / 1 - nI t / 1 / 2 * 2 = 1) ↔ ¬ t % 2 = 0) := by decide +kernel
theorem md_m {z : Nat → Int32} {t : Nat} (ht : t < 8) (e : z 32 = nI t) : ((s_M_mode z 2 = 0) = (t / 2 % 2 = 0)) ∧ ((s_M_mode z 4 = 0) = (t / 4 % 2 = 0)) ∧ ((s_M_mode z 1 = 0) = (t % 2 = 0)) := by
  obtain ⟨h2, h4, h1⟩ := md_2 t ht
  unfold s_M_mode
  rw [c32, e]
  simp only [h1, h2, h4]
  refine ⟨propext ?_, propext ?_, propext ?_⟩
  · by_cases h : t / 2 % 2 = 0 <;> simp [h]
  · by_cases h : t / 4 % 2 = 0 <;> simp [h]
  · by_cases h : t % 2 = 0 <;> simp [h]
theorem md_x {z : Nat → Int32} {t : Nat} (ht : t < 8) (e : z 32 = nI t) (how : Int32) : (s_X1_isMapped z how = 0) = (if how = 0 then t / 2 % 2 = 0 else t / 4 % 2 = 0) := by
  obtain ⟨h2, h4, h1⟩ := md_1 t ht
  unfold s_X1_isMapped
  rw [c32, e]
  simp only [h2, h4]
  by_cases hh : how = 0
  · rw [if_pos hh, if_pos hh]
    exact propext (by by_cases h : t / 2 % 2 = 0 <;> simp [h])
  · rw [if_neg hh, if_neg hh]
    exact propext (by by_cases h : t / 4 % 2 = 0 <;> simp [h])
theorem wi_n {n : Nat} (hn : n < 2 ^ 32) : (lN n / 1024 - lN n / 1024 / 8 * 8).toInt32 = nI (n / 1024 % 8) := by
  rw [show (1024 : Int64) = lN 1024 from rfl, show (8 : Int64) = lN 8 from rfl, pk_lDiv (by omega) (by omega) (by omega), pk_lRem (by omega) (by omega) (by omega), lN_i]
theorem wi_a {n : Nat} (hn : n < 2 ^ 32) (a : Nat) (ha : a ≤ 25) (A : Int32) (hA : A = nI a) : ((lN n / 1024 - lN n / 1024 / 8 * 8).toInt32 + A).toNatClampNeg = n / 1024 % 8 + a := by
  rw [wi_n hn, hA, nI_add, nI_clamp (by omega)]
theorem wi_b {n : Nat} (hn : n < 2 ^ 32) (a : Nat) (ha : a ≤ 17) (A : Int32) (hA : A = nI a) : ((lN n / 1024 - lN n / 1024 / 8 * 8).toInt32 + A + 8).toNatClampNeg = n / 1024 % 8 + a + 8 := by
  rw [wi_n hn, hA, nI_add, show (8 : Int32) = nI 8 from rfl, nI_add, nI_clamp (by omega)]
theorem so_e {n : Nat} (hn : n < 2 ^ 32) : s_X1_setOf (nI n) = nI (n / 1024 % 8) := by
  unfold s_X1_setOf
  rw [ush_N hn 10 10 (by decide), pk_andN (by omega) 3 (by decide)]
theorem xi_a {n : Nat} (hn : n < 2 ^ 32) (d : Int32) (a : Nat) (ha : a ≤ 16) (hd : s_X1_firstMatch d = nI a) : (s_X1_firstMatch d + s_X1_setOf (nI n)).toNatClampNeg = n / 1024 % 8 + a := by
  rw [hd, so_e hn, nI_add, nI_clamp (by omega)]
  omega
theorem xi_b {n : Nat} (hn : n < 2 ^ 32) (d : Int32) (a : Nat) (ha : a ≤ 16) (hd : s_X1_firstMatch d = nI a) : (s_X1_firstMatch d + s_X1_setOf (nI n) + 8).toNatClampNeg = n / 1024 % 8 + a + 8 := by
  rw [hd, so_e hn, nI_add, show (8 : Int32) = nI 8 from rfl, nI_add, nI_clamp (by omega)]
  omega
theorem k_odd {A : Nat} (hA : A < 2 ^ 32) : (lg_cmp (lN A - lN A / 2 * 2) 0 = 0) = (A % 2 = 0) := propext (by
  rw [lg_cmp_eq, show (2 : Int64) = lN 2 from rfl, pk_lRem (by omega) (by omega) (by omega)]
  exact pk_lEQ (b := 0) (by omega) (by omega))
theorem k_pg {A n : Nat} (hA : A < 2 ^ 32) (hn : n < 2 ^ 32) : (lg_cmp (lN A / 1024) (lN n / 1024) = 0) = (A / 1024 = n / 1024) := propext (by
  rw [lg_cmp_eq, show (1024 : Int64) = lN 1024 from rfl, pk_lDiv (by omega) (by omega) (by omega), pk_lDiv (by omega) (by omega) (by omega)]
  exact pk_lEQ (by omega) (by omega))
theorem k_rt {B : Nat} (hB : B < 2 ^ 32) (r : Nat) (h0 : 0 < r) (hr : r < 16) (R : Int64) (hR : R = lN r) : (lg_cmp (lN B / R - lN B / R / 2 * 2) 0 = 0) = (B / r % 2 = 0) := propext (by
  have hq : B / r ≤ B := Nat.div_le_self B r
  rw [hR, lg_cmp_eq, show (2 : Int64) = lN 2 from rfl, pk_lDiv (by omega) h0 (by omega), pk_lRem (by omega) (by omega) (by omega)]
  exact pk_lEQ (b := 0) (by omega) (by omega))
theorem k_pl {B n : Nat} (hB : B < 2 ^ 32) (hn : n < 2 ^ 32) : lN B / 1024 * 1024 + (lN n - lN n / 1024 * 1024) = lN (B / 1024 * 1024 + n % 1024) := by
  rw [show (1024 : Int64) = lN 1024 from rfl, pk_lDiv (by omega) (by omega) (by omega), lN_mul, pk_lRem (by omega) (by omega) (by omega), lN_add]
theorem x_pg {A n : Nat} (hA : A < 2 ^ 32) (hn : n < 2 ^ 32) : (s_X1_isOfPage (nI A) (nI n) = 0) = (A % 2 = 0 ∨ ¬ A / 1024 = n / 1024) := propext (by
  unfold s_X1_isOfPage s_X1_isOdd
  rw [pk_andN hA 1 (by decide), ush_N hA 10 10 (by decide), ush_N hn 10 10 (by decide)]
  have e1 : (nI (A % 2 ^ 1) = 0) ↔ A % 2 = 0 := nI_e0 (by omega)
  have e2 : (nI (A / 2 ^ 10) = nI (n / 2 ^ 10)) ↔ A / 1024 = n / 1024 := nI_eq (by omega) (by omega)
  simp only [e1, e2]
  by_cases h1 : A % 2 = 0 <;> by_cases h2 : A / 1024 = n / 1024 <;> simp [h1, h2])
theorem al_v {n : Nat} (hn : n < 2 ^ 32) : (nI n &&& 3 = 0) = (n % 4 = 0) := propext (by
  rw [pk_andN hn 2 (by decide)]
  exact nI_e0 (by omega))
theorem al_x {n : Nat} (hn : n < 2 ^ 32) : (s_X1_isAligned (nI n) = 0) = ¬ (n % 4 = 0) := by
  unfold s_X1_isAligned
  simp only [al_v hn]
  by_cases h : n % 4 = 0 <;> simp [h]
