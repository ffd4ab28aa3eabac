theorem p_eta {α β : Type} (x : α × β) : (x.1, x.2) = x := rfl
/-- both find a place, the same; or both find the same fault -/
def one_of (mw_ : Int32 × Int32) (xl wx : Int32) : Prop := (∃ N : Nat, N < 65536 ∧ mw_ = (0, nI N) ∧ xl = nI N ∧ (¬ wx = 0 → N % 4 = 0)) ∨ (∃ (w : Nat) (fo' : Int32), 0 < w ∧ w ≤ 10 ∧ mw_ = (nI w, fo') ∧ xl = -nI w)
theorem one_tail {how wx : Int32} {N : Nat} (hN : N < 2 ^ 32) (h4 : ¬ wx = 0 → N % 4 = 0) : one_of (s_b232 how (lN N)) (s_X1_within (nI N) how) wx := by
  rcases tail_eq how hN with ⟨h1, h2, h3⟩ | ⟨h2, h3⟩
  · exact Or.inl ⟨N, h1, h2, h3, h4⟩
  · exact Or.inr ⟨2, 0, by decide, by decide, h2, h3⟩
theorem core0 {z : Nat → Int32} {fo v how wd wx : Int32} (hq : md_ok z) (hh : how = 0) (hx : ¬ wx = 0) : one_of (s_M_wrong z fo v how wd) (s_X1_locate z v how wx) wx := by
  obtain ⟨n, hn, ev, el⟩ := at_n v
  obtain ⟨t, ht, et⟩ := hq
  obtain ⟨m2, m4, m1⟩ := md_m ht et
  have x2 := md_x ht et how
  rw [if_pos hh] at x2
  have h2 : ¬ how = 2 := by rw [hh]; decide
  obtain ⟨A, hA, eA, lA⟩ := at_n (z (n / 1024 % 8 + 0))
  obtain ⟨B, hB, eB, lB⟩ := at_n (z (n / 1024 % 8 + 0 + 8))
  have hM : s_M_wrong z fo v how wd = (if n % 4 = 0 then (if t / 2 % 2 = 0 then s_b232 how (lN n) else if A % 2 = 0 then (10, fo) else if A / 1024 = n / 1024 then (if t % 2 = 0 then (if B / 1 % 2 = 0 then (4, fo) else s_b232 how (lN (B / 1024 * 1024 + n % 1024))) else (if B / 4 % 2 = 0 then (4, fo) else s_b232 how (lN (B / 1024 * 1024 + n % 1024)))) else (10, fo)) else (6, fo)) := by
    unfold s_M_wrong
    have a3 : (v &&& 3 = 0) = (n % 4 = 0) := by rw [ev]; exact al_v hn
    by_cases hw : wd = 0
    · simp only [if_pos hw, if_pos hh, if_neg h2, el, wi_a hn 0 (by decide) 0 rfl, wi_b hn 0 (by decide) 0 rfl, lA, lB, m2, m1, a3, k_odd hA, k_pg hA hn, k_rt hB 1 (by decide) (by decide) 1 rfl, k_rt hB 4 (by decide) (by decide) 4 rfl, k_pl hB hn, p_eta]
    · simp only [if_neg hw, if_pos hh, if_neg h2, el, wi_a hn 0 (by decide) 0 rfl, wi_b hn 0 (by decide) 0 rfl, lA, lB, m2, m1, a3, k_odd hA, k_pg hA hn, k_rt hB 1 (by decide) (by decide) 1 rfl, k_rt hB 4 (by decide) (by decide) 4 rfl, k_pl hB hn, p_eta]
  have n0 : (nI t &&& 1 = 0) = (t % 2 = 0) := propext (md_1 t ht).2.2
  have r1 : (nI B &&& 1 = 0) = (B / 1 % 2 = 0) := propext (xr B 0 (by decide) 1 rfl)
  have r4 : (nI B &&& (1 <<< ((2 : Int32) &&& 31)) = 0) = (B / 4 % 2 = 0) := propext (xr B 2 (by decide) _ (by decide))
  have hX : s_X1_locate z v how wx = (if ¬ n % 4 = 0 then (-6) else if t / 2 % 2 = 0 then s_X1_within (nI n) how else if A % 2 = 0 ∨ ¬ A / 1024 = n / 1024 then (-10) else if t % 2 = 0 then (if B / 1 % 2 = 0 then (-4) else s_X1_within (nI (B / 1024 * 1024 + n % 1024)) how) else (if B / 4 % 2 = 0 then (-4) else s_X1_within (nI (B / 1024 * 1024 + n % 1024)) how)) := by
    unfold s_X1_locate s_X1_neededRight
    simp only [if_neg hx, if_pos hh, if_neg h2, ev, al_x hn, x2, xi_a hn 0 0 (by decide) rfl, xi_b hn 0 0 (by decide) rfl, eA, eB, x_pg hA hn, c32, et, n0, pl_join hB hn]
    by_cases hs : t % 2 = 0
    · simp only [if_pos hs, r1]
    · simp only [if_neg hs, r4]
  rw [hM, hX]
  by_cases h4 : n % 4 = 0
  · rw [if_pos h4, if_neg (not_not_intro h4)]
    by_cases hm : t / 2 % 2 = 0
    · rw [if_pos hm, if_pos hm]
      exact one_tail hn (fun _ => h4)
    · rw [if_neg hm, if_neg hm]
      by_cases ha : A % 2 = 0
      · rw [if_pos ha, if_pos (Or.inl ha)]
        exact Or.inr ⟨10, fo, by decide, by decide, rfl, by decide⟩
      · rw [if_neg ha]
        by_cases hp : A / 1024 = n / 1024
        · rw [if_pos hp, if_neg (by omega : ¬ (A % 2 = 0 ∨ ¬ A / 1024 = n / 1024))]
          by_cases hs : t % 2 = 0
          · rw [if_pos hs, if_pos hs]
            by_cases hb : B / 1 % 2 = 0
            · rw [if_pos hb, if_pos hb]
              exact Or.inr ⟨4, fo, by decide, by decide, rfl, by decide⟩
            · rw [if_neg hb, if_neg hb]
              exact one_tail (by omega) (fun _ => by omega)
          · rw [if_neg hs, if_neg hs]
            by_cases hb : B / 4 % 2 = 0
            · rw [if_pos hb, if_pos hb]
              exact Or.inr ⟨4, fo, by decide, by decide, rfl, by decide⟩
            · rw [if_neg hb, if_neg hb]
              exact one_tail (by omega) (fun _ => by omega)
        · rw [if_neg hp, if_pos (Or.inr hp)]
          exact Or.inr ⟨10, fo, by decide, by decide, rfl, by decide⟩
  · rw [if_neg h4, if_pos h4]
    exact Or.inr ⟨6, fo, by decide, by decide, rfl, by decide⟩
theorem core1 {z : Nat → Int32} {fo v how wd wx : Int32} (hq : md_ok z) (hh : ¬ how = 0) (hx : wx = 0 ↔ wd = 0) : one_of (s_M_wrong z fo v how wd) (s_X1_locate z v how wx) wx := by
  obtain ⟨n, hn, ev, el⟩ := at_n v
  obtain ⟨t, ht, et⟩ := hq
  obtain ⟨m2, m4, m1⟩ := md_m ht et
  have x2 := md_x ht et how
  rw [if_neg hh] at x2
  obtain ⟨A, hA, eA, lA⟩ := at_n (z (n / 1024 % 8 + 16))
  obtain ⟨B, hB, eB, lB⟩ := at_n (z (n / 1024 % 8 + 16 + 8))
  have a3 : (v &&& 3 = 0) = (n % 4 = 0) := by rw [ev]; exact al_v hn
  have hM : s_M_wrong z fo v how wd = (if ¬ wd = 0 ∧ ¬ n % 4 = 0 then (6, fo) else (if t / 4 % 2 = 0 then s_b232 how (lN n) else if A % 2 = 0 then (9, fo) else if A / 1024 = n / 1024 then (if how = 2 then (if t % 2 = 0 then (if B / 2 % 2 = 0 then (3, fo) else s_b232 how (lN (B / 1024 * 1024 + n % 1024))) else (if B / 8 % 2 = 0 then (3, fo) else s_b232 how (lN (B / 1024 * 1024 + n % 1024)))) else (if t % 2 = 0 then (if B / 1 % 2 = 0 then (3, fo) else s_b232 how (lN (B / 1024 * 1024 + n % 1024))) else (if B / 4 % 2 = 0 then (3, fo) else s_b232 how (lN (B / 1024 * 1024 + n % 1024))))) else (9, fo))) := by
    unfold s_M_wrong
    by_cases hw : wd = 0
    · rw [if_neg (fun q => q.1 hw : ¬ (¬ wd = 0 ∧ ¬ n % 4 = 0))]
      simp only [if_pos hw, if_neg hh, el, wi_a hn 16 (by decide) 16 rfl, wi_b hn 16 (by decide) 16 rfl, lA, lB, m4, m1, k_odd hA, k_pg hA hn, k_rt hB 1 (by decide) (by decide) 1 rfl, k_rt hB 4 (by decide) (by decide) 4 rfl, k_rt hB 2 (by decide) (by decide) 2 rfl, k_rt hB 8 (by decide) (by decide) 8 rfl, k_pl hB hn, p_eta]
    · by_cases h4 : n % 4 = 0
      · rw [if_neg (fun q => q.2 h4 : ¬ (¬ wd = 0 ∧ ¬ n % 4 = 0))]
        simp only [if_neg hw, if_neg hh, a3, if_pos h4, el, wi_a hn 16 (by decide) 16 rfl, wi_b hn 16 (by decide) 16 rfl, lA, lB, m4, m1, k_odd hA, k_pg hA hn, k_rt hB 1 (by decide) (by decide) 1 rfl, k_rt hB 4 (by decide) (by decide) 4 rfl, k_rt hB 2 (by decide) (by decide) 2 rfl, k_rt hB 8 (by decide) (by decide) 8 rfl, k_pl hB hn, p_eta]
      · rw [if_pos (⟨hw, h4⟩ : ¬ wd = 0 ∧ ¬ n % 4 = 0)]
        simp only [if_neg hw, a3, if_neg h4]
  have n0 : (nI t &&& 1 = 0) = (t % 2 = 0) := propext (md_1 t ht).2.2
  have r1 : (nI B &&& 1 = 0) = (B / 1 % 2 = 0) := propext (xr B 0 (by decide) 1 rfl)
  have r4 : (nI B &&& (1 <<< ((2 : Int32) &&& 31)) = 0) = (B / 4 % 2 = 0) := propext (xr B 2 (by decide) _ (by decide))
  have r2 : (nI B &&& 2 = 0) = (B / 2 % 2 = 0) := propext (xr B 1 (by decide) 2 rfl)
  have r8 : (nI B &&& (2 <<< ((2 : Int32) &&& 31)) = 0) = (B / 8 % 2 = 0) := propext (xr B 3 (by decide) _ (by decide))
  have hX : s_X1_locate z v how wx = (if ¬ wd = 0 ∧ ¬ n % 4 = 0 then (-6) else (if t / 4 % 2 = 0 then s_X1_within (nI n) how else if A % 2 = 0 ∨ ¬ A / 1024 = n / 1024 then (-9) else if how = 2 then (if t % 2 = 0 then (if B / 2 % 2 = 0 then (-3) else s_X1_within (nI (B / 1024 * 1024 + n % 1024)) how) else (if B / 8 % 2 = 0 then (-3) else s_X1_within (nI (B / 1024 * 1024 + n % 1024)) how)) else (if t % 2 = 0 then (if B / 1 % 2 = 0 then (-3) else s_X1_within (nI (B / 1024 * 1024 + n % 1024)) how) else (if B / 4 % 2 = 0 then (-3) else s_X1_within (nI (B / 1024 * 1024 + n % 1024)) how)))) := by
    have e : (if s_X1_isMapped z how = 0 then s_X1_within v how else if how = 0 then (if s_X1_isOfPage (z (s_X1_firstMatch 0 + s_X1_setOf v).toNatClampNeg) v = 0 then (-10) else if (z (s_X1_firstMatch 0 + s_X1_setOf v + 8).toNatClampNeg) &&& s_X1_neededRight z how = 0 then (-4) else s_X1_within (((z (s_X1_firstMatch 0 + s_X1_setOf v + 8).toNatClampNeg) &&& (-1024)) ||| (v &&& 1023)) how) else if s_X1_isOfPage (z (s_X1_firstMatch 1 + s_X1_setOf v).toNatClampNeg) v = 0 then (-9) else if (z (s_X1_firstMatch 1 + s_X1_setOf v + 8).toNatClampNeg) &&& s_X1_neededRight z how = 0 then (-3) else s_X1_within (((z (s_X1_firstMatch 1 + s_X1_setOf v + 8).toNatClampNeg) &&& (-1024)) ||| (v &&& 1023)) how) = (if t / 4 % 2 = 0 then s_X1_within (nI n) how else if A % 2 = 0 ∨ ¬ A / 1024 = n / 1024 then (-9) else if how = 2 then (if t % 2 = 0 then (if B / 2 % 2 = 0 then (-3) else s_X1_within (nI (B / 1024 * 1024 + n % 1024)) how) else (if B / 8 % 2 = 0 then (-3) else s_X1_within (nI (B / 1024 * 1024 + n % 1024)) how)) else (if t % 2 = 0 then (if B / 1 % 2 = 0 then (-3) else s_X1_within (nI (B / 1024 * 1024 + n % 1024)) how) else (if B / 4 % 2 = 0 then (-3) else s_X1_within (nI (B / 1024 * 1024 + n % 1024)) how))) := by
      unfold s_X1_neededRight
      simp only [if_neg hh, ev, x2, xi_a hn 1 16 (by decide) rfl, xi_b hn 1 16 (by decide) rfl, eA, eB, x_pg hA hn, c32, et, n0, pl_join hB hn]
      by_cases h2 : how = 2
      · by_cases hs : t % 2 = 0
        · simp only [if_pos h2, if_pos hs, r2]
        · simp only [if_pos h2, if_neg hs, r8]
      · by_cases hs : t % 2 = 0
        · simp only [if_neg h2, if_pos hs, r1]
        · simp only [if_neg h2, if_neg hs, r4]
    unfold s_X1_locate
    by_cases hw : wd = 0
    · rw [if_pos (hx.mpr hw), if_neg (fun q => q.1 hw : ¬ (¬ wd = 0 ∧ ¬ n % 4 = 0))]
      exact e
    · rw [if_neg (fun q => hw (hx.mp q) : ¬ wx = 0)]
      by_cases h4 : n % 4 = 0
      · rw [if_neg (fun q => q.2 h4 : ¬ (¬ wd = 0 ∧ ¬ n % 4 = 0)), if_neg (show ¬ s_X1_isAligned v = 0 by rw [ev, al_x hn]; exact fun q => q h4)]
        exact e
      · rw [if_pos (⟨hw, h4⟩ : ¬ wd = 0 ∧ ¬ n % 4 = 0), if_pos (show s_X1_isAligned v = 0 by rw [ev, al_x hn]; exact h4)]
  rw [hM, hX]
  by_cases h6 : ¬ wd = 0 ∧ ¬ n % 4 = 0
  · rw [if_pos h6, if_pos h6]
    exact Or.inr ⟨6, fo, by decide, by decide, rfl, by decide⟩
  · have h4 : ¬ wx = 0 → n % 4 = 0 := by
      intro q
      by_cases hz : n % 4 = 0
      · exact hz
      · exact absurd ⟨fun w => q (hx.mpr w), hz⟩ h6
    rw [if_neg h6, if_neg h6]
    by_cases hm : t / 4 % 2 = 0
    · rw [if_pos hm, if_pos hm]
      exact one_tail hn h4
    · rw [if_neg hm, if_neg hm]
      by_cases ha : A % 2 = 0
      · rw [if_pos ha, if_pos (Or.inl ha)]
        exact Or.inr ⟨9, fo, by decide, by decide, rfl, by decide⟩
      · rw [if_neg ha]
        by_cases hp : A / 1024 = n / 1024
        · rw [if_pos hp, if_neg (by omega : ¬ (A % 2 = 0 ∨ ¬ A / 1024 = n / 1024))]
          have ok : one_of (s_b232 how (lN (B / 1024 * 1024 + n % 1024))) (s_X1_within (nI (B / 1024 * 1024 + n % 1024)) how) wx := one_tail (by omega) (fun q => by have := h4 q; omega)
          have no : one_of (3, fo) (-3) wx := Or.inr ⟨3, fo, by decide, by decide, rfl, by decide⟩
          by_cases h2 : how = 2
          · rw [if_pos h2, if_pos h2]
            by_cases hs : t % 2 = 0
            · rw [if_pos hs, if_pos hs]
              by_cases hb : B / 2 % 2 = 0
              · rw [if_pos hb, if_pos hb]; exact no
              · rw [if_neg hb, if_neg hb]; exact ok
            · rw [if_neg hs, if_neg hs]
              by_cases hb : B / 8 % 2 = 0
              · rw [if_pos hb, if_pos hb]; exact no
              · rw [if_neg hb, if_neg hb]; exact ok
          · rw [if_neg h2, if_neg h2]
            by_cases hs : t % 2 = 0
            · rw [if_pos hs, if_pos hs]
              by_cases hb : B / 1 % 2 = 0
              · rw [if_pos hb, if_pos hb]; exact no
              · rw [if_neg hb, if_neg hb]; exact ok
            · rw [if_neg hs, if_neg hs]
              by_cases hb : B / 4 % 2 = 0
              · rw [if_pos hb, if_pos hb]; exact no
              · rw [if_neg hb, if_neg hb]; exact ok
        · rw [if_neg hp, if_pos (Or.inr hp)]
          exact Or.inr ⟨9, fo, by decide, by decide, rfl, by decide⟩
/-- the two side by side -/
theorem core {z : Nat → Int32} {fo v how wd wx : Int32} (hq : md_ok z) (hx : wx = 0 ↔ (wd = 0 ∧ ¬ how = 0)) : one_of (s_M_wrong z fo v how wd) (s_X1_locate z v how wx) wx := by
  by_cases hh : how = 0
  · exact core0 hq hh (fun q => (hx.mp q).2 hh)
  · exact core1 hq hh ⟨fun q => (hx.mp q).1, fun q => hx.mpr ⟨q, hh⟩⟩
/-- where the reference's probe says yes, what it found lies in the memory -/
theorem pr_ok {z : Nat → Int32} {a1 a2 a3 fo v how wd : Int32} (hq : md_ok z) (h : ¬ (s_M_probe z a1 a2 a3 fo v how wd).1 = 0) : ∃ N : Nat, N < 65536 ∧ (s_M_probe z a1 a2 a3 fo v how wd).2.2.2.2 = nI N ∧ (¬ (wd = 0 ∧ ¬ how = 0) → N % 4 = 0) := by
  have e : (s_M_wrong z fo v how wd).1 = 0 := by
    by_cases q : (s_M_wrong z fo v how wd).1 = 0
    · exact q
    · refine absurd ?_ h
      unfold s_M_probe
      simp only [if_neg q]
      split <;> rfl
  have ef : (s_M_probe z a1 a2 a3 fo v how wd).2.2.2.2 = (s_M_wrong z fo v how wd).2 := by
    unfold s_M_probe
    simp only [if_pos e]
    split <;> rfl
  by_cases hw : wd = 0 ∧ ¬ how = 0
  · rcases core (fo := fo) (v := v) (how := how) (wd := wd) (wx := 0) hq ⟨fun _ => hw, fun _ => rfl⟩ with ⟨N, h1, h2, h3, h4⟩ | ⟨w, f2, h1, h2, h3, h4⟩
    · exact ⟨N, h1, by rw [ef, h2], fun q => absurd hw q⟩
    · rw [h3] at e
      exact absurd ((nI_e0 (by omega)).mp e) (by omega)
  · rcases core (fo := fo) (v := v) (how := how) (wd := wd) (wx := 1) hq ⟨fun q => absurd q (by decide), fun q => absurd q hw⟩ with ⟨N, h1, h2, h3, h4⟩ | ⟨w, f2, h1, h2, h3, h4⟩
    · exact ⟨N, h1, by rw [ef, h2], fun _ => h4 (by decide)⟩
    · rw [h3] at e
      exact absurd ((nI_e0 (by omega)).mp e) (by omega)
theorem pr_4 {z : Nat → Int32} {a1 a2 a3 fo v how wd : Int32} (hq : md_ok z) (h : ¬ (s_M_probe z a1 a2 a3 fo v how wd).1 = 0) (hw : ¬ (wd = 0 ∧ ¬ how = 0)) : pin4 (s_M_probe z a1 a2 a3 fo v how wd).2.2.2.2 := by
  obtain ⟨N, h1, h2, h3⟩ := pr_ok hq h
  exact pin4_of h1 (h3 hw) h2
theorem pr_in {z : Nat → Int32} {a1 a2 a3 fo v how wd : Int32} (hq : md_ok z) (h : ¬ (s_M_probe z a1 a2 a3 fo v how wd).1 = 0) : vp_in (s_M_probe z a1 a2 a3 fo v how wd).2.2.2.2 65536 := by
  obtain ⟨N, h1, h2, h3⟩ := pr_ok hq h
  exact pk_in N 65536 h1 h2
