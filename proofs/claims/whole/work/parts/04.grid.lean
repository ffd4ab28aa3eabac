/-! Own rows: an array of int arrays, whose places are rows of the pool, or null. What the tables say of it moves by the kit's over_moved. -/
def ag_O (t : FieldType) (U : State) : Prop := (Cond.arrayOver (.array t)).before #[] U = true
theorem ag_O.moved {t : FieldType} {u U : State} (hvm : u.vm.Alike U.vm) (h : ag_O t u) : ag_O t U := over_moved hvm h
theorem ag_cl {own a b : String} {i : Nat} {args : Array Value} {s : State} (e : a = b) (h : (Cond.classLink own i b).before args s = true) : (Cond.classLink own i a).before args s = true := e ▸ h
/-- one more cell at the heap's end: the world has it too, all else stays -/
theorem ag_more {D : va_G} {cl : List vw_C} {A : Nat → Prop} {ws : va_W} {H0 H : Heap} {locs : List Loc} (hP : va_P D cl ws H) (hD : va_D A ws) (hS : va_S A H0 H locs) (hA : ∀ q, H0.size ≤ q → A q) (x : Cell) (e : va_E) (he : va_at D cl (H.size, e) (H.push x)) : va_P D cl (ws ++ [(H.size, e)]) (H.push x) ∧ va_D A (ws ++ [(H.size, e)]) ∧ va_S A H0 (H.push x) locs := by
  have old : ∀ q : Nat, q < H.size → (H.push x)[q]? = H[q]? := fun q hq => by rw [Array.getElem?_push, if_neg (Nat.ne_of_lt hq)]
  have hP1 : va_P D cl [(H.size, e)] (H.push x) := by
    intro k w hw
    match k, hw with
    | 0, hw => cases hw; exact he
    | k + 1, hw => simp at hw
  refine ⟨(hP.kept fun k w hw => old _ (hP k w hw).lt).app hP1, hD.push hP rfl (hA _ hS.1), ?_, fun q h1 h2 => ?_, hS.2.2⟩
  · rw [Array.size_push]
    exact Nat.le_succ_of_le hS.1
  · rw [old q (Nat.lt_of_lt_of_le h1 hS.1)]
    exact hS.2.1 q h1 h2
/-- a row laid at a place, as the picture has it -/
theorem ag_cell (cA : ClassId) (n : Nat) (f : Nat → Option Nat) (i v : Nat) : (vp_cell cA (n, .inr (.inr (.inr (.inr f))))).setSlot i (.ref v) = vp_cell cA (n, .inr (.inr (.inr (.inr (va_up f i (some v)))))) := by
  rw [vp_cell_q, vp_cell_q, arrV_store]
  refine congrArg (arrV cA n) (funext fun q => ?_)
  by_cases hq : q = i <;> simp [updV, va_up, va_rf, hq]
section AGD
variable {p : Program} {l : Launch} {e : Env} {R : Room} {s : State} {m : MethodId} {args : Array Value} {below : List Frame} {meth : Method} {c : Code} {H : Heap} {locs : List Loc} {cells slots : Nat} {Q : State → Prop}
variable {cc : ByteArray} {pc : Nat} {ls : Array Slot} {rest : List Value} {D : va_G} {cl : List vw_C} {A : Nat → Prop} {a : Nat} {tys : List (ClassId × FieldType)} {ws : va_W} {H0 : Heap} {t : FieldType} {cA : ClassId} {n : Nat} {f : Nat → Option Nat}
/-- a new array of arrays -/
theorem ag_new (hx : p.tables.exec = Jvm.exec) (hb : c.code = cc) {own : String} {index : Nat} (hown : s.vm.findClass own = some m.cls) (hlink : (Cond.classLink own index (FieldType.array t).toString).before args s = true) (hO : ag_O t s) (hK : va_K D cl tys s) (hP : va_P D cl ws H) (hD : va_D A ws) (hS : va_S A H0 H locs) (hA : ∀ q, H0.size ≤ q → A q) {n : Int32} {N' : Nat} (h0 : ¬ n < 0) (hN : n.toNatClampNeg = N') (hB : N' * 4 ≤ 536870912) (hc : cells + 1 ≤ R.cells) (hs : slots + N' ≤ R.slots) (hd : decode cc pc = .ok (.anewarray index, 3))
    (k : ∀ (q : Nat) (cA : ClassId) (H1 : Heap), va_K D cl (tys ++ [(cA, .array t)]) s → va_P D cl (ws ++ [(q, .inl (cA, N', .inr (.inr (.inr (.inr (fun _ => none))))))]) H1 → va_D A (ws ++ [(q, .inl (cA, N', .inr (.inr (.inr (.inr (fun _ => none))))))]) → va_S A H0 H1 locs → W p l e R s m args below meth c H1 locs (cells + 1) (slots + N') Q (F0 m (pc + 3) ls (.ref q :: rest))) : W p l e R s m args below meth c H locs cells slots Q (F0 m pc ls (.int n :: rest)) := by
  subst hN
  refine W.anewA hx hb hown hlink hO rfl hd rfl h0 hB hc hs fun cA kA comp g1 g2 g3 _ => ?_
  have hT : va_K D cl [(cA, .array t)] s := by
    refine ⟨hK.1, fun j w hw => ?_⟩
    match j, hw with
    | 0, hw => cases hw; exact ⟨fun _ _ => ⟨(fun _ h => by cases h), kA, g2, comp, g3⟩, g1⟩
    | j + 1, hw => simp at hw
  have hC : va_at D cl (H.size, .inl (cA, n.toNatClampNeg, .inr (.inr (.inr (.inr (fun _ => none)))))) (H.push { cls := cA, slots := Array.replicate n.toNatClampNeg .null, vm := .none }) := by
    show (H.push _)[H.size]? = some (vp_cell _ _)
    rw [vp_cell_q, Array.getElem?_push_size]
    exact congrArg some (arrV_new ..)
  obtain ⟨hP1, hD1, hS1⟩ := ag_more hP hD hS hA _ _ hC
  exact k H.size cA _ (hK.app hT) hP1 hD1 hS1
/-- a place of it is read -/
theorem ag_ld (hx : p.tables.exec = Jvm.exec) (hb : c.code = cc) (hK : va_K D cl tys s) (hP : va_P D cl ws H) (q0 t0 : Nat) (ha : ws[q0]? = some (a, .inl (cA, n, .inr (.inr (.inr (.inr f)))))) (ht : tys[t0]? = some (cA, .array t)) {i : Int32} (hi : vp_in i n) (hd : decode cc pc = .ok (.aaload, 1))
    (k : W p l e R s m args below meth c H locs cells slots Q (F0 m (pc + 1) ls (va_rf (f i.toNatClampNeg) :: rest))) : W p l e R s m args below meth c H locs cells slots Q (F0 m pc ls (.int i :: .ref a :: rest)) := by
  have hlt : i.toNatClampNeg < n := Nat.lt_of_not_le fun q => hi (Or.inr q)
  have hcell : H[a]? = some (arrV cA n fun j => va_rf (f j)) := (hP q0 _ ha).trans (congrArg some (vp_cell_q ..))
  refine W.aald (v := va_rf (f i.toNatClampNeg)) (ty := .array t) hx hb hcell ((hK.2 t0 _ ht).1 n _) rfl (fun q => by cases q) ?_ (arrV_read _ _ hlt) rfl rfl hd k
  rw [arrV_size]
  exact hi
/-- a row is laid at a place of it -/
theorem ag_st (hx : p.tables.exec = Jvm.exec) (hb : c.code = cc) (hK : va_K D cl tys s) (hP : va_P D cl ws H) (hD : va_D A ws) (hS : va_S A H0 H locs) (q0 t0 : Nat) {cR : ClassId} {v : Nat} (ha : ws[q0]? = some (a, .inl (cA, n, .inr (.inr (.inr (.inr f)))))) (ht : tys[t0]? = some (cA, .array t)) (hO : ag_O t s) (hR : s.vm.findClass (FieldType.array t).toString = some cR) (hr : ∃ x : Cell, H[v]? = some x ∧ x.vm.isStatics = false ∧ x.cls = cR) {i : Int32} (hi : vp_in i n) (hd : decode cc pc = .ok (.aastore, 1))
    (k : ∀ (H1 : Heap) (locs1 : List Loc), va_P D cl (ws.set q0 (a, .inl (cA, n, .inr (.inr (.inr (.inr (va_up f i.toNatClampNeg (some v)))))))) H1 → va_D A (ws.set q0 (a, .inl (cA, n, .inr (.inr (.inr (.inr (va_up f i.toNatClampNeg (some v)))))))) → va_S A H0 H1 locs1 → W p l e R s m args below meth c H1 locs1 cells slots Q (F0 m (pc + 1) ls rest)) : W p l e R s m args below meth c H locs cells slots Q (F0 m pc ls (.ref v :: .int i :: .ref a :: rest)) := by
  obtain ⟨x, x1, x2, x3⟩ := hr
  obtain ⟨comp, c2, kA, e1, -, e2, e3, e4⟩ := arrayOverA_spec hO
  have hname : s.vm.findClass ("[" ++ (FieldType.array t).toString) = some cA := (hK.2 t0 _ ht).2
  obtain rfl : cA = c2 := Option.some.inj (hname.symm.trans e4)
  obtain rfl : comp = cR := Option.some.inj (e1.symm.trans hR)
  obtain ⟨kR, hkR, -⟩ := Vm.findClass_spec e1
  have hin : ¬ i < 0 ∧ i.toNatClampNeg < (vp_cell cA (n, .inr (.inr (.inr (.inr f))))).slots.size := by
    rw [vp_cell_q, arrV_size]
    exact ⟨fun q => hi (Or.inl q), Nat.lt_of_not_le fun q => hi (Or.inr q)⟩
  refine W.aast hx hb (hP q0 _ ha) (fun _ h => by cases h) (fun h => by cases h) e2 e3 rfl hkR hin x1 (fun q h => by rw [h] at x2; cases x2) (by rw [x3]; exact hkR) (by rw [x3]; exact va_asg _ _) rfl rfl hd fun H1 w1 w2 w3 => ?_
  exact k H1 _ (hP.set hD ha (show H1[a]? = some (vp_cell _ _) by rw [w1, ag_cell]) w3) (hD.set ha) (hS.put w2 w3 (hD.2 q0 _ ha))
end AGD
