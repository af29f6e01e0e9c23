/-- the memory behind new int[N][m] at the cell a: the outer row at a, the inner ones behind it -/
def wG (M : Mm) (a N : Nat) : Mm := (fun b j => if a ≤ b ∧ b ≤ a + N then 0 else M.1 b j, fun b j => if a ≤ b ∧ b ≤ a + N then 0 else M.2.1 b j, fun b j => if b = a then (if j < N then some (a + 1 + j) else none) else if a ≤ b ∧ b ≤ a + N then none else M.2.2 b j)
theorem wG_ne {b a N : Nat} {K : CtxT} {M : Mm} (h : b < a) : ce K (wG M a N) b = ce K M b :=
  ce_congr (fun j => by simp [wG, show ¬ a ≤ b by omega]) (fun j => by simp [wG, show ¬ a ≤ b by omega]) (fun j => by simp [wG, show ¬ b = a by omega, show ¬ a ≤ b by omega])
theorem outer_row (c : ClassId) (N h0 : Nat) : ∀ i : Nat, Jvm.Free.Multi.outerC c N h0 i = arrV c N (fun j => va_rf (if j < i then some (h0 + 1 + j) else none))
  | 0 => by
    show ({ cls := c, slots := Array.replicate N .null, vm := .none } : Cell) = _
    rw [arrV_new]
    congr 1
  | i + 1 => by
    show (Jvm.Free.Multi.outerC c N h0 i).setSlot i (.ref (h0 + 1 + i)) = _
    rw [outer_row c N h0 i, arrV_store]
    congr 1
    funext j
    by_cases e : j = i
    · subst e
      simp [updV, va_rf]
    · by_cases h : j < i
      · simp [updV, e, h, Nat.lt_succ_of_lt h]
      · simp [updV, e, h, show ¬ j < i + 1 by omega]
section MULTI
variable {E : EnvT} {K : CtxT} {μ : MI} {d : Nat} {f : Nat × Nat} {pc : Nat} {L : List (Option Value)} {st : List Value} {nx : Nat} {M : Mm} {k n : Nat} {Z : State → Prop}
theorem wp_multi {idx N m : Nat} {x y : Int32} (hd : decode μ.2.1 pc = .ok (.multianewarray idx 2, 4)) (hw : Cond.classLink μ.1.cls idx "[[I" ∈ gw) (hwI : Cond.arrayClass .int ∈ gw) (hx : ¬ x < 0) (hy : ¬ y < 0) (hN : x.toNatClampNeg = N) (hm : y.toNatClampNeg = m) (hN2 : N ≤ 1000) (hm2 : m ≤ 1000)
    (ha : lk nx = (12, N)) (hb : ∀ j, j < N → lk (nx + 1 + j) = (9, m)) (hrm : k + (1 + N) ≤ f.1 ∧ n + (N + N * m) ≤ f.2)
    (kk : Wp E K μ d f (pc + 4) L (.ref (K.1 + nx) :: st) (nx + (1 + N)) (wG M nx N) (k + 1 + N) (n + N + N * m) Z) : Wp E K μ d f pc L (.int y :: .int x :: st) nx M k n Z := by
  intro ok H locs ls hP hS hl
  have ok' := ok
  obtain ⟨hex, hbb, hml, hown, hts, -, -, hK, -, hfr, hlo, hcs, hss, -⟩ := ok'
  subst hN
  subst hm
  intro T hT X
  obtain ⟨vm₁, cA, comp, -, fA, fC, -, -, X', step⟩ := X.multianewarray2F (ty := .int) hex hown (hts _ hw) (ao_vm (A := #[]) rfl (hK.2.2 _ (by simp [aoT]))) (hts _ hwI) (g := F0 (em E) pc ls (.int y :: .int x :: st)) rfl (by rw [hbb]; exact hd) rfl hx hy (by omega) (by show _ * 4 ≤ _; omega) (by omega) rfl rfl (Nat.le_trans hrm.1 hcs) (Nat.le_trans hrm.2 hss)
  have hcA : cA = K.2.2 12 := Option.some.inj (fA.symm.trans (hK.1.2 3 _ rfl).2)
  have hcm : comp = K.2.2 9 := Option.some.inj (fC.symm.trans (hK.1.2 0 _ rfl).2)
  subst hcA
  subst hcm
  obtain ⟨f1, f2, -, -⟩ := Jvm.Free.Multi.fill_facts (T.setVm vm₁) (K.2.2 12) (K.2.2 9) x.toNatClampNeg y.toNatClampNeg (defaultValue .int) x.toNatClampNeg
  have f3 := fun (a : Nat) (h : a < (T.setVm vm₁).heap.size) => Jvm.Free.Multi.fill_old (T.setVm vm₁) (K.2.2 12) (K.2.2 9) x.toNatClampNeg y.toNatClampNeg (defaultValue .int) (a := a) h x.toNatClampNeg
  have f4 := fun j => Jvm.Free.Multi.fill_inner (T.setVm vm₁) (K.2.2 12) (K.2.2 9) x.toNatClampNeg y.toNatClampNeg (defaultValue .int) x.toNatClampNeg j
  generalize Jvm.Free.Multi.fill (T.setVm vm₁) (K.2.2 12) (K.2.2 9) x.toNatClampNeg y.toNatClampNeg (defaultValue .int) x.toNatClampNeg = F at X' step f1 f2 f3 f4
  have hTh : (T.setVm vm₁).heap = H := hT
  rw [hTh, hP.2] at f1 f2 f3 f4
  rw [hT, hP.2] at step
  have hPw : Pw K (nx + (1 + x.toNatClampNeg)) (wG M nx x.toNatClampNeg) F.heap := by
    refine hP.grow (m := 1 + x.toNatClampNeg) (by omega) f3 (fun b hb => wG_ne hb) (fun j hj => ?_)
    rcases Nat.eq_zero_or_pos j with rfl | hj0
    · rw [Nat.add_zero, ce_ref ha (by decide)]
      show F.heap[K.1 + nx]? = some (vp_cell _ _)
      rw [f2, outer_row, vp_cell_q]
      congr 2
      funext i
      by_cases hi : i < x.toNatClampNeg
      · have e : K.1 + nx + 1 + i = K.1 + (nx + 1 + i) := by omega
        simp [wG, hi, va_rf, e]
      · simp [wG, hi, va_rf]
    · obtain ⟨i, rfl⟩ : ∃ i, j = i + 1 := ⟨j - 1, by omega⟩
      have hl9 := hb i (by omega)
      rw [show nx + 1 + i = nx + (i + 1) by omega] at hl9
      rw [ce_int hl9]
      show F.heap[K.1 + (nx + (i + 1))]? = some (vp_cell _ _)
      rw [show K.1 + (nx + (i + 1)) = K.1 + nx + 1 + i by omega, f4 i (by omega), vp_cell_i]
      show some ({ cls := K.2.2 9, slots := Array.replicate y.toNatClampNeg (.int 0), vm := .none } : Cell) = _
      rw [arrV_new]
      congr 2
      funext q
      have : nx ≤ nx + (i + 1) ∧ nx + (i + 1) ≤ nx + x.toNatClampNeg := by omega
      simp [wG, this]
  obtain ⟨t, a1, b1⟩ := kk ok F.heap locs ls hPw (hS.grow (by rw [f1, hP.2]; omega) (fun q hq => f3 q (by rw [← hP.2]; exact hq))) hl F rfl X'
  exact ⟨t, step t a1, b1⟩
end MULTI
