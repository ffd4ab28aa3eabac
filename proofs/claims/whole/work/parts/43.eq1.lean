/-! Own words: the class's words of memory and the reference's bytes. -/
def pw : Nat → Nat
  | 0 => 16777216
  | 1 => 65536
  | 2 => 256
  | _ => 1
/-- the bytes y are those of the words M -/
def brel (M y : Nat → Int32) : Prop := ∀ j, j < 65536 → y j = nI ((M (j / 4)).toBitVec.toNat / pw (j % 4) % 256)
theorem i_n (x : Int32) : ∃ n : Nat, n < 2 ^ 32 ∧ x = nI n ∧ x.toBitVec.toNat = n := by
  obtain ⟨n, h1, h2, -⟩ := at_n x
  exact ⟨n, h1, h2, by rw [h2, pk_tn h1]⟩
theorem brel_0 : brel (fun _ => 0) (fun _ => 0) := by
  intro j hj
  have e : (0 : Int32).toBitVec.toNat = 0 := by decide
  rw [e, Nat.zero_div]
  rfl
theorem brel_c {M M' y : Nat → Int32} (h : ∀ k, k < 16384 → M' k = M k) (hb : brel M y) : brel M' y := by
  intro j hj
  rw [hb j hj, h (j / 4) (by omega)]
theorem m_get_n (M : Nat → Int32) {N : Nat} (hN : N < 65536) : m_get M (nI N) = M (N / 4) := by
  have h0 : ¬ nI N < 0 := nI_pos (by omega)
  have h1 : ¬ (65536 : Int32) ≤ nI N := nI_ge (a := N) (b := 65536) hN (by decide)
  simp only [m_get, if_neg h0, if_neg h1]
  rw [nI_clamp (by omega)]
theorem m_put_n (M : Nat → Int32) {N : Nat} (hN : N < 65536) (w : Int32) : m_put M (nI N) w = upd M (N / 4) w := by
  have h0 : ¬ nI N < 0 := nI_pos (by omega)
  have h1 : ¬ (65536 : Int32) ≤ nI N := nI_ge (a := N) (b := 65536) hN (by decide)
  simp only [m_put, if_neg h0, if_neg h1]
  rw [nI_clamp (by omega)]
theorem m_get_c {M M' : Nat → Int32} (h : ∀ k, k < 16384 → M' k = M k) (pl : Int32) : m_get M' pl = m_get M pl := by
  unfold m_get
  split
  · rfl
  · split
    · rfl
    · rename_i h0 h1
      obtain ⟨n, hn, rfl⟩ := pl_n h0 h1
      rw [nI_clamp (by omega)]
      exact h _ (by omega)
theorem pp_k {N : Nat} (hN : N + 4 ≤ 65536) (k : Nat) (hk : k < 4) (K : Int32) (hK : K = nI k) : (nI N + K).toNatClampNeg = N + k := by
  rw [hK, nI_add, nI_clamp (by omega)]
theorem wordIn_eq {M y : Nat → Int32} (hb : brel M y) {N : Nat} (hN : N < 65536) (h4 : N % 4 = 0) : s_M_wordIn y (nI N) = m_get M (nI N) := by
  rw [m_get_n M hN]
  unfold s_M_wordIn
  rw [pp_k (by omega) 0 (by decide) 0 rfl, pp_k (by omega) 1 (by decide) 1 rfl, pp_k (by omega) 2 (by decide) 2 rfl, pp_k (by omega) 3 (by decide) 3 rfl]
  rw [hb (N + 0) (by omega), hb (N + 1) (by omega), hb (N + 2) (by omega), hb (N + 3) (by omega)]
  rw [show (N + 0) / 4 = N / 4 by omega, show (N + 1) / 4 = N / 4 by omega, show (N + 2) / 4 = N / 4 by omega, show (N + 3) / 4 = N / 4 by omega]
  rw [show (N + 0) % 4 = 0 by omega, show (N + 1) % 4 = 1 by omega, show (N + 2) % 4 = 2 by omega, show (N + 3) % 4 = 3 by omega]
  obtain ⟨W, hW, e, et⟩ := i_n (M (N / 4))
  rw [et, e]
  have e0 : (0 : Int32) = nI 0 := rfl
  have e1 : (256 : Int32) = nI 256 := rfl
  rw [e0, e1]
  simp only [pk_mul, nI_add, pw]
  congr 1
  omega
theorem bsh_n {N : Nat} (hN : N < 65536) : s_X0_byteShift (nI N) = nI ((3 - N % 4) * 8) := by
  unfold s_X0_byteShift
  rw [pk_andN (by omega) 2 (by decide), show (3 : Int32) = nI 3 from rfl, show (8 : Int32) = nI 8 from rfl, pk_sub (by omega), pk_mul]
theorem byteAt_eq {M y : Nat → Int32} (hb : brel M y) {N : Nat} (hN : N < 65536) : s_X0_byteAt M (nI N) = y (nI N).toNatClampNeg := by
  unfold s_X0_byteAt
  rw [nI_clamp (by omega), hb N hN, m_get_n M hN, bsh_n hN]
  obtain ⟨W, hW, e, et⟩ := i_n (M (N / 4))
  rw [et, e]
  rcases (by omega : N % 4 = 0 ∨ N % 4 = 1 ∨ N % 4 = 2 ∨ N % 4 = 3) with h | h | h | h <;> rw [h]
  · rw [show ush (nI W) (nI ((3 - 0) * 8)) = nI (W / 2 ^ 24) from ush_N hW _ 24 (by decide), pk_andN (by omega) 8 (by decide)]
    simp only [pw]
  · rw [show ush (nI W) (nI ((3 - 1) * 8)) = nI (W / 2 ^ 16) from ush_N hW _ 16 (by decide), pk_andN (by omega) 8 (by decide)]
    simp only [pw]
  · rw [show ush (nI W) (nI ((3 - 2) * 8)) = nI (W / 2 ^ 8) from ush_N hW _ 8 (by decide), pk_andN (by omega) 8 (by decide)]
    simp only [pw]
  · rw [show ush (nI W) (nI ((3 - 3) * 8)) = nI (W / 2 ^ 0) from ush_N hW _ 0 (by decide), pk_andN (by omega) 8 (by decide)]
    simp only [pw]
/-- the byte that the reference lays -/
theorem shb (v s : Int32) (k : Nat) (hs : (s.toBitVec.smod 32).toNat = k) (hk : k = 0 ∨ k = 8 ∨ k = 16 ∨ k = 24) : (v >>> s) &&& 255 = nI (v.toBitVec.toNat / 2 ^ k % 256) := by
  rw [pk_and (v >>> s) 8 (by decide)]
  congr 1
  have h := pk_shr v s k hs
  rw [Int.shiftRight_eq_div_pow] at h
  have e1 : (v >>> s).toInt = if 2 * (v >>> s).toBitVec.toNat < 2 ^ 32 then ((v >>> s).toBitVec.toNat : Int) else ((v >>> s).toBitVec.toNat : Int) - (2 ^ 32 : Nat) := BitVec.toInt_eq_toNat_cond _
  have e2 : v.toInt = if 2 * v.toBitVec.toNat < 2 ^ 32 then (v.toBitVec.toNat : Int) else (v.toBitVec.toNat : Int) - (2 ^ 32 : Nat) := BitVec.toInt_eq_toNat_cond _
  have h1 := (v >>> s).toBitVec.isLt
  have h2 := v.toBitVec.isLt
  generalize (v >>> s).toBitVec.toNat = X at *
  generalize v.toBitVec.toNat = V at *
  rw [e1, e2] at h
  rcases hk with rfl | rfl | rfl | rfl <;> split at h <;> split at h <;> omega
theorem lay_at {y : Nat → Int32} {N : Nat} (hN : N + 4 ≤ 65536) (v : Int32) (j : Nat) : s_M_lay y (nI N) v j = if j = N + 3 then nI (v.toBitVec.toNat / 1 % 256) else if j = N + 2 then nI (v.toBitVec.toNat / 256 % 256) else if j = N + 1 then nI (v.toBitVec.toNat / 65536 % 256) else if j = N then nI (v.toBitVec.toNat / 16777216 % 256) else y j := by
  unfold s_M_lay
  rw [pp_k hN 0 (by decide) 0 rfl, pp_k hN 1 (by decide) 1 rfl, pp_k hN 2 (by decide) 2 rfl, pp_k hN 3 (by decide) 3 rfl]
  rw [shb v _ 24 (by decide) (by omega), shb v _ 16 (by decide) (by omega), shb v _ 8 (by decide) (by omega), shb v _ 0 (by decide) (by omega)]
  rfl
theorem lay_rel {M y : Nat → Int32} (hb : brel M y) {N : Nat} (hN : N < 65536) (h4 : N % 4 = 0) (v : Int32) : brel (m_put M (nI N) v) (s_M_lay y (nI N) v) := by
  intro j hj
  rw [m_put_n M hN, lay_at (by omega)]
  by_cases h3 : j = N + 3
  · rw [if_pos h3, show j / 4 = N / 4 by omega, pk_us, show j % 4 = 3 by omega]
    simp only [pw]
  · rw [if_neg h3]
    by_cases h2 : j = N + 2
    · rw [if_pos h2, show j / 4 = N / 4 by omega, pk_us, show j % 4 = 2 by omega]
      simp only [pw]
    · rw [if_neg h2]
      by_cases h1 : j = N + 1
      · rw [if_pos h1, show j / 4 = N / 4 by omega, pk_us, show j % 4 = 1 by omega]
        simp only [pw]
      · rw [if_neg h1]
        by_cases h0 : j = N
        · rw [if_pos h0, show j / 4 = N / 4 by omega, pk_us, show j % 4 = 0 by omega]
          simp only [pw]
        · rw [if_neg h0, pk_un (by omega)]
          exact hb j hj
/-- a byte laid into a word -/
theorem pb_n (W q i : Nat) (hW : W < 2 ^ 32) (hq : q < 256) (hi : i < 4) : ∃ V : Nat, V < 2 ^ 32 ∧ ((nI W &&& ((255 <<< ((nI ((3 - i) * 8) : Int32) &&& 31)) ^^^ (-1))) ||| (nI q <<< ((nI ((3 - i) * 8) : Int32) &&& 31))) = nI V ∧ ∀ k, k < 4 → V / pw k % 256 = if k = i then q else W / pw k % 256 := by
  have by_ : ∀ (m c : Nat) (k : Nat), ((W &&& m) ||| c) / 2 ^ k % 2 ^ 8 = ((W / 2 ^ k % 2 ^ 8) &&& (m / 2 ^ k % 2 ^ 8)) ||| (c / 2 ^ k % 2 ^ 8) := by
    intro m c k
    rw [Nat.or_div_two_pow, Nat.and_div_two_pow, Nat.or_mod_two_pow, Nat.and_mod_two_pow]
  have full : ∀ x : Nat, (x % 2 ^ 8) &&& 255 = x % 2 ^ 8 := fun x => Nat.and_two_pow_sub_one_of_lt_two_pow (Nat.mod_lt _ (by decide))
  have lt : ∀ m c : Nat, c < 2 ^ 32 → ((W &&& m) ||| c) < 2 ^ 32 := fun m c hc => Nat.or_lt_two_pow (Nat.lt_of_le_of_lt Nat.and_le_left hW) hc
  have P0 : pw 0 = 2 ^ 24 := rfl
  have P1 : pw 1 = 2 ^ 16 := rfl
  have P2 : pw 2 = 2 ^ 8 := rfl
  have P3 : pw 3 = 2 ^ 0 := rfl
  rcases (by omega : i = 0 ∨ i = 1 ∨ i = 2 ∨ i = 3) with rfl | rfl | rfl | rfl
  · have e1 : ((255 <<< ((nI ((3 - 0) * 8) : Int32) &&& 31)) ^^^ (-1)) = nI 16777215 := by decide
    have e2 : nI q <<< ((nI ((3 - 0) * 8) : Int32) &&& 31) = nI (q * 2 ^ 24) := pk_shlN _ 24 (by decide) (by omega)
    rw [e1, e2, nx_and, nx_or]
    refine ⟨_, lt _ _ (by omega), rfl, fun k hk => ?_⟩
    rcases (by omega : k = 0 ∨ k = 1 ∨ k = 2 ∨ k = 3) with rfl | rfl | rfl | rfl
    · rw [P0, by_ _ _ 24, show 16777215 / 2 ^ 24 % 2 ^ 8 = 0 by decide, Nat.and_zero, Nat.zero_or, if_pos rfl]; omega
    · rw [P1, by_ _ _ 16, show 16777215 / 2 ^ 16 % 2 ^ 8 = 255 by decide, full, show q * 2 ^ 24 / 2 ^ 16 % 2 ^ 8 = 0 by omega, Nat.or_zero, if_neg (by decide)]
    · rw [P2, by_ _ _ 8, show 16777215 / 2 ^ 8 % 2 ^ 8 = 255 by decide, full, show q * 2 ^ 24 / 2 ^ 8 % 2 ^ 8 = 0 by omega, Nat.or_zero, if_neg (by decide)]
    · rw [P3, by_ _ _ 0, show 16777215 / 2 ^ 0 % 2 ^ 8 = 255 by decide, full, show q * 2 ^ 24 / 2 ^ 0 % 2 ^ 8 = 0 by omega, Nat.or_zero, if_neg (by decide)]
  · have e1 : ((255 <<< ((nI ((3 - 1) * 8) : Int32) &&& 31)) ^^^ (-1)) = nI 4278255615 := by decide
    have e2 : nI q <<< ((nI ((3 - 1) * 8) : Int32) &&& 31) = nI (q * 2 ^ 16) := pk_shlN _ 16 (by decide) (by omega)
    rw [e1, e2, nx_and, nx_or]
    refine ⟨_, lt _ _ (by omega), rfl, fun k hk => ?_⟩
    rcases (by omega : k = 0 ∨ k = 1 ∨ k = 2 ∨ k = 3) with rfl | rfl | rfl | rfl
    · rw [P0, by_ _ _ 24, show 4278255615 / 2 ^ 24 % 2 ^ 8 = 255 by decide, full, show q * 2 ^ 16 / 2 ^ 24 % 2 ^ 8 = 0 by omega, Nat.or_zero, if_neg (by decide)]
    · rw [P1, by_ _ _ 16, show 4278255615 / 2 ^ 16 % 2 ^ 8 = 0 by decide, Nat.and_zero, Nat.zero_or, if_pos rfl]; omega
    · rw [P2, by_ _ _ 8, show 4278255615 / 2 ^ 8 % 2 ^ 8 = 255 by decide, full, show q * 2 ^ 16 / 2 ^ 8 % 2 ^ 8 = 0 by omega, Nat.or_zero, if_neg (by decide)]
    · rw [P3, by_ _ _ 0, show 4278255615 / 2 ^ 0 % 2 ^ 8 = 255 by decide, full, show q * 2 ^ 16 / 2 ^ 0 % 2 ^ 8 = 0 by omega, Nat.or_zero, if_neg (by decide)]
  · have e1 : ((255 <<< ((nI ((3 - 2) * 8) : Int32) &&& 31)) ^^^ (-1)) = nI 4294902015 := by decide
    have e2 : nI q <<< ((nI ((3 - 2) * 8) : Int32) &&& 31) = nI (q * 2 ^ 8) := pk_shlN _ 8 (by decide) (by omega)
    rw [e1, e2, nx_and, nx_or]
    refine ⟨_, lt _ _ (by omega), rfl, fun k hk => ?_⟩
    rcases (by omega : k = 0 ∨ k = 1 ∨ k = 2 ∨ k = 3) with rfl | rfl | rfl | rfl
    · rw [P0, by_ _ _ 24, show 4294902015 / 2 ^ 24 % 2 ^ 8 = 255 by decide, full, show q * 2 ^ 8 / 2 ^ 24 % 2 ^ 8 = 0 by omega, Nat.or_zero, if_neg (by decide)]
    · rw [P1, by_ _ _ 16, show 4294902015 / 2 ^ 16 % 2 ^ 8 = 255 by decide, full, show q * 2 ^ 8 / 2 ^ 16 % 2 ^ 8 = 0 by omega, Nat.or_zero, if_neg (by decide)]
    · rw [P2, by_ _ _ 8, show 4294902015 / 2 ^ 8 % 2 ^ 8 = 0 by decide, Nat.and_zero, Nat.zero_or, if_pos rfl]; omega
    · rw [P3, by_ _ _ 0, show 4294902015 / 2 ^ 0 % 2 ^ 8 = 255 by decide, full, show q * 2 ^ 8 / 2 ^ 0 % 2 ^ 8 = 0 by omega, Nat.or_zero, if_neg (by decide)]
  · have e1 : ((255 <<< ((nI ((3 - 3) * 8) : Int32) &&& 31)) ^^^ (-1)) = nI 4294967040 := by decide
    have e2 : nI q <<< ((nI ((3 - 3) * 8) : Int32) &&& 31) = nI (q * 2 ^ 0) := pk_shlN _ 0 (by decide) (by omega)
    rw [e1, e2, nx_and, nx_or]
    refine ⟨_, lt _ _ (by omega), rfl, fun k hk => ?_⟩
    rcases (by omega : k = 0 ∨ k = 1 ∨ k = 2 ∨ k = 3) with rfl | rfl | rfl | rfl
    · rw [P0, by_ _ _ 24, show 4294967040 / 2 ^ 24 % 2 ^ 8 = 255 by decide, full, show q * 2 ^ 0 / 2 ^ 24 % 2 ^ 8 = 0 by omega, Nat.or_zero, if_neg (by decide)]
    · rw [P1, by_ _ _ 16, show 4294967040 / 2 ^ 16 % 2 ^ 8 = 255 by decide, full, show q * 2 ^ 0 / 2 ^ 16 % 2 ^ 8 = 0 by omega, Nat.or_zero, if_neg (by decide)]
    · rw [P2, by_ _ _ 8, show 4294967040 / 2 ^ 8 % 2 ^ 8 = 255 by decide, full, show q * 2 ^ 0 / 2 ^ 8 % 2 ^ 8 = 0 by omega, Nat.or_zero, if_neg (by decide)]
    · rw [P3, by_ _ _ 0, show 4294967040 / 2 ^ 0 % 2 ^ 8 = 0 by decide, Nat.and_zero, Nat.zero_or, if_pos rfl]; omega
theorem pb_rel {M y : Nat → Int32} (hb : brel M y) {N : Nat} (hN : N < 65536) (w : Int32) : brel (s_X0_putByte M (nI N) w) (upd y (nI N).toNatClampNeg (w &&& 255)) := by
  obtain ⟨W, hW, e, et⟩ := i_n (M (N / 4))
  have hq : w &&& 255 = nI (w.toBitVec.toNat % 256) := pk_and w 8 (by decide)
  obtain ⟨V, hV, eV, hk⟩ := pb_n W (w.toBitVec.toNat % 256) (N % 4) hW (by omega) (by omega)
  have e1 : s_X0_putByte M (nI N) w = upd M (N / 4) (nI V) := by
    unfold s_X0_putByte
    rw [m_get_n M hN, bsh_n hN, m_put_n M hN, e, hq, eV]
  rw [e1, nI_clamp (by omega), hq]
  intro j hj
  by_cases h : j / 4 = N / 4
  · rw [h, pk_us, pk_tn hV, hk (j % 4) (by omega)]
    by_cases h2 : j = N
    · rw [h2, pk_us, if_pos rfl]
    · rw [pk_un h2, if_neg (by omega), hb j hj, h, et]
  · rw [pk_un (fun q => h (by rw [q])), pk_un h]
    exact hb j hj
