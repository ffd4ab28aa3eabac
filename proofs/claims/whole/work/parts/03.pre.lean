/-! Own words: shifts, rows of the memory, what a memory holds. -/
def ush (x y : Int32) : Int32 := (x.toUInt32 >>> (y.toUInt32 &&& Int32.toUInt32 31)).toInt32
theorem nz_of {x : Int32} (h : x = 0 ∨ x = 1) : narrow .boolean (.int x) = .int x := by
  rcases h with h | h <;> subst h <;> rfl
theorem ush_N {n : Nat} (hn : n < 2 ^ 32) (s : Int32) (k : Nat) (hs : ((s.toUInt32 &&& Int32.toUInt32 31).toBitVec % 32).toNat = k) : ush (nI n) s = nI (n / 2 ^ k) := pk_ushrN hn s k hs
/-- the pool's rows: arrays of 256 ints -/
def prow (cI : ClassId) (r : Nat → Nat → Int32) : Nat → va_E := fun a => .inl (cI, 256, .inl (r a))
theorem prow_up (cI : ClassId) (r : Nat → Nat → Int32) (y : Nat) (x : Nat → Int32) : va_up (prow cI r) y (.inl (cI, 256, .inl x)) = prow cI (va_up r y x) := by
  funext a
  by_cases h : a = y
  · subst h; simp [va_up, prow]
  · simp [va_up, prow, h]
/-- the pages that are there lie in the pool, no two at one row -/
def mok (g : Nat → Option Nat) (LP : List Nat) : Prop := (∀ i y, i < 64 → g i = some y → y ∈ LP) ∧ ∀ i j y, i < 64 → j < 64 → g i = some y → g j = some y → i = j
/-- the memory's k-th word -/
def mw (g : Nat → Option Nat) (r : Nat → Nat → Int32) (k : Nat) : Int32 := match g (k / 256) with
  | none => 0
  | some y => r y (k % 256)
theorem mw_none {g : Nat → Option Nat} {r : Nat → Nat → Int32} {k : Nat} (h : g (k / 256) = none) : mw g r k = 0 := by
  unfold mw; rw [h]
theorem mw_some {g : Nat → Option Nat} {r : Nat → Nat → Int32} {k y : Nat} (h : g (k / 256) = some y) : mw g r k = r y (k % 256) := by
  unfold mw; rw [h]
theorem mok_0 : mok (fun _ => none) [] := ⟨fun _ _ _ h => (by cases h), fun _ _ _ _ _ h => (by cases h)⟩
theorem mok_new {g : Nat → Option Nat} {LP : List Nat} {i q : Nat} (h : mok g LP) (hq : q ∉ LP) : mok (va_up g i (some q)) (LP ++ [q]) := by
  refine ⟨fun j y hj e => ?_, fun a b y ha hb ea eb => ?_⟩
  · by_cases hji : j = i
    · subst hji
      rw [va_up_self] at e
      cases e
      exact List.mem_append_right _ List.mem_cons_self
    · rw [va_up_ne _ _ hji] at e
      exact List.mem_append_left _ (h.1 j y hj e)
  · by_cases hai : a = i <;> by_cases hbi : b = i
    · rw [hai, hbi]
    · subst hai
      rw [va_up_self] at ea
      rw [va_up_ne _ _ hbi] at eb
      cases ea
      exact absurd (h.1 b _ hb eb) hq
    · subst hbi
      rw [va_up_self] at eb
      rw [va_up_ne _ _ hai] at ea
      cases eb
      exact absurd (h.1 a _ ha ea) hq
    · rw [va_up_ne _ _ hai] at ea
      rw [va_up_ne _ _ hbi] at eb
      exact h.2 a b y ha hb ea eb
theorem mw_put {g : Nat → Option Nat} {LP : List Nat} {r : Nat → Nat → Int32} {n y : Nat} {x : Int32} (h : mok g LP) (hn : n < 16384) (hy : g (n / 256) = some y) (k : Nat) (hk : k < 16384) : mw g (va_up r y (upd (r y) (n % 256) x)) k = upd (mw g r) n x k := by
  by_cases hkn : k = n
  · subst hkn
    rw [mw_some hy, va_up_self, pk_us, pk_us]
  · rw [pk_un hkn]
    cases hg : g (k / 256) with
    | none => rw [mw_none hg, mw_none hg]
    | some z =>
      rw [mw_some hg, mw_some hg]
      by_cases hzy : z = y
      · subst hzy
        rw [va_up_self, pk_un]
        have := h.2 (k / 256) (n / 256) z (by omega) (by omega) hg hy
        omega
      · rw [va_up_ne _ _ hzy]
theorem mw_newput {g : Nat → Option Nat} {LP : List Nat} {r : Nat → Nat → Int32} {n q : Nat} {x : Int32} (h : mok g LP) (hq : q ∉ LP) (hn : n < 16384) (hg : g (n / 256) = none) (k : Nat) (hk : k < 16384) : mw (va_up g (n / 256) (some q)) (va_up r q (upd (fun _ => 0) (n % 256) x)) k = upd (mw g r) n x k := by
  by_cases hkn : k = n
  · subst hkn
    rw [mw_some (va_up_self _ _ _), va_up_self, pk_us, pk_us]
  · rw [pk_un hkn]
    by_cases hp : k / 256 = n / 256
    · rw [mw_some (y := q) (by rw [hp]; exact va_up_self _ _ _), va_up_self, pk_un (by omega), mw_none (by rw [hp]; exact hg)]
    · cases hz : g (k / 256) with
      | none => rw [mw_none (by rw [va_up_ne _ _ hp]; exact hz), mw_none hz]
      | some z =>
        rw [mw_some (y := z) (by rw [va_up_ne _ _ hp]; exact hz), mw_some hz, va_up_ne]
        intro e
        subst e
        exact hq (h.1 _ _ (by omega) hz)
theorem lt_n {x : Int32} {n : Nat} (hn : n < 2 ^ 31) (h0 : ¬ x < 0) (h : ¬ nI n ≤ x) : ∃ j : Nat, j < n ∧ x = nI j := by
  rcases pk_ix x hn with h1 | h1 | h1
  · exact absurd h1 h0
  · exact absurd h1 h
  · exact h1
theorem pl_n {pl : Int32} (h0 : ¬ pl < 0) (h : ¬ 65536 ≤ pl) : ∃ n : Nat, n < 65536 ∧ pl = nI n := lt_n (n := 65536) (by decide) h0 h
theorem pg_n {n : Nat} (hn : n < 65536) : ush (nI n) 10 = nI (n / 1024) := ush_N (by omega) 10 10 (by decide)
theorem of_n {n : Nat} (hn : n < 65536) : ush (nI n &&& 1023) 2 = nI (n % 1024 / 4) := by
  rw [pk_andN (by omega) 10 (by decide)]
  exact ush_N (by omega) 2 2 (by decide)
theorem pg_in {pl : Int32} (h0 : ¬ pl < 0) (h : ¬ 65536 ≤ pl) : vp_in (ush pl 10) 64 := by
  obtain ⟨n, hn, rfl⟩ := pl_n h0 h
  exact pk_in (n / 1024) 64 (by omega) (pg_n hn)
theorem of_in {pl : Int32} (h0 : ¬ pl < 0) (h : ¬ 65536 ≤ pl) : vp_in (ush (pl &&& 1023) 2) 256 := by
  obtain ⟨n, hn, rfl⟩ := pl_n h0 h
  exact pk_in (n % 1024 / 4) 256 (by omega) (of_n hn)
theorem pg_cl {pl : Int32} (h0 : ¬ pl < 0) (h : ¬ 65536 ≤ pl) : (ush pl 10).toNatClampNeg = pl.toNatClampNeg / 4 / 256 ∧ (ush pl 10).toNatClampNeg < 64 := by
  obtain ⟨n, hn, rfl⟩ := pl_n h0 h
  rw [pg_n hn, nI_clamp (by omega), nI_clamp (by omega)]
  omega
theorem of_cl {pl : Int32} (h0 : ¬ pl < 0) (h : ¬ 65536 ≤ pl) : (ush (pl &&& 1023) 2).toNatClampNeg = pl.toNatClampNeg / 4 % 256 ∧ pl.toNatClampNeg / 4 < 16384 := by
  obtain ⟨n, hn, rfl⟩ := pl_n h0 h
  rw [of_n hn, nI_clamp (by omega), nI_clamp (by omega)]
  omega
/-- the word at a place (any place; 0 outside) -/
def m_get (M : Nat → Int32) (pl : Int32) : Int32 := if pl < 0 then 0 else if 65536 ≤ pl then 0 else M (pl.toNatClampNeg / 4)
/-- the memory with a word at a place -/
def m_put (M : Nat → Int32) (pl w : Int32) : Nat → Int32 := if pl < 0 then M else if 65536 ≤ pl then M else upd M (pl.toNatClampNeg / 4) w
theorem m_get_none {g : Nat → Option Nat} {r : Nat → Nat → Int32} {pl : Int32} (h0 : ¬ pl < 0) (h : ¬ 65536 ≤ pl) (hg : g (ush pl 10).toNatClampNeg = none) : 0 = m_get (mw g r) pl := by
  rw [(pg_cl h0 h).1] at hg
  simp only [m_get, if_neg h0, if_neg h]
  rw [mw_none hg]
theorem m_get_some {g : Nat → Option Nat} {r : Nat → Nat → Int32} {pl : Int32} {y : Nat} (h0 : ¬ pl < 0) (h : ¬ 65536 ≤ pl) (hg : g (ush pl 10).toNatClampNeg = some y) : r y (ush (pl &&& 1023) 2).toNatClampNeg = m_get (mw g r) pl := by
  rw [(pg_cl h0 h).1] at hg
  simp only [m_get, if_neg h0, if_neg h]
  rw [mw_some hg, (of_cl h0 h).1]
theorem m_put_some {g : Nat → Option Nat} {LP : List Nat} {r : Nat → Nat → Int32} {pl x : Int32} {y : Nat} (hm : mok g LP) (h0 : ¬ pl < 0) (h : ¬ 65536 ≤ pl) (hg : g (ush pl 10).toNatClampNeg = some y) (k : Nat) (hk : k < 16384) : mw g (va_up r y (upd (r y) (ush (pl &&& 1023) 2).toNatClampNeg x)) k = m_put (mw g r) pl x k := by
  rw [(pg_cl h0 h).1] at hg
  simp only [m_put, if_neg h0, if_neg h]
  rw [(of_cl h0 h).1]
  exact mw_put hm (of_cl h0 h).2 hg k hk
theorem m_put_none {g : Nat → Option Nat} {LP : List Nat} {r : Nat → Nat → Int32} {pl x : Int32} {q : Nat} (hm : mok g LP) (hq : q ∉ LP) (h0 : ¬ pl < 0) (h : ¬ 65536 ≤ pl) (hg : g (ush pl 10).toNatClampNeg = none) (k : Nat) (hk : k < 16384) : mw (va_up g (ush pl 10).toNatClampNeg (some q)) (va_up r q (upd (fun _ => 0) (ush (pl &&& 1023) 2).toNatClampNeg x)) k = m_put (mw g r) pl x k := by
  rw [(pg_cl h0 h).1] at hg ⊢
  simp only [m_put, if_neg h0, if_neg h]
  rw [(of_cl h0 h).1]
  exact mw_newput hm hq (of_cl h0 h).2 hg k hk
/-- two arrays of ints have one class -/
theorem cls_eq {D : va_G} {cl : List vw_C} {tys : List (ClassId × FieldType)} {s : State} {i j : Nat} {c1 c2 : ClassId} (hK : va_K D cl tys s) (h1 : tys[i]? = some (c1, .int)) (h2 : tys[j]? = some (c2, .int)) : c1 = c2 := by
  have e1 : s.vm.findClass ("[" ++ FieldType.int.toString) = some c1 := (hK.2 i _ h1).2
  have e2 : s.vm.findClass ("[" ++ FieldType.int.toString) = some c2 := (hK.2 j _ h2).2
  exact Option.some.inj (e1.symm.trans e2)
