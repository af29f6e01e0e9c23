section COPY
variable {E : EnvT} {K : CtxT} {μ : MI} {d : Nat} {f : Nat × Nat} {pc : Nat} {L : List (Option Value)} {st : List Value} {nx : Nat} {M : Mm} {k n : Nat} {Z : State → Prop}
theorem wC_row (M : Mm) (a0 sp a dp n : Nat) : (wC M a0 sp a dp n).1 a = va_cpy (M.1 a0) (M.1 a) sp dp n := by
  funext j
  simp [wC, va_cpy]
/-- System.arraycopy between int arrays -/
theorem wp_copy {idx a0 a N0 N1 : Nat} {sp dp m : Int32} {rest : List Value} (hd : decode μ.2.1 pc = .ok (.invokestatic idx, 3)) (hw : Cond.methodLink μ.1.cls idx arraycopyName ∈ gw) (ha0 : lk a0 = (9, N0)) (ha : lk a = (9, N1)) (hn0 : a0 < nx) (hn : a < nx)
    (h1 : ¬ sp < 0) (h2 : ¬ dp < 0) (h3 : ¬ m < 0) (h4 : sp.toNatClampNeg + m.toNatClampNeg ≤ N0) (h5 : dp.toNatClampNeg + m.toNatClampNeg ≤ N1) (hcat : (rest.map fun v => v.category).sum ≤ 8) (hdd : 0 < d)
    (kk : Wp E K μ d f (pc + 3) L rest nx (wC M a0 sp.toNatClampNeg a dp.toNatClampNeg m.toNatClampNeg) k n Z) : Wp E K μ d f pc L (.int m :: .int dp :: .ref (K.1 + a) :: .int sp :: .ref (K.1 + a0) :: rest) nx M k n Z := by
  intro ok H locs ls hP hS hl
  have ok' := ok
  obtain ⟨hx, hb, hml, hown, hts, -, -, hK, -, hfr, hlo, hcs, hss, -⟩ := ok'
  have nn : ∀ z : Int32, ¬ z < 0 → z.toInt = (z.toNatClampNeg : Int) := by
    intro z hz
    have hz0 : (0 : Int) ≤ z.toInt := by
      have := Int32.not_lt.mp hz
      simpa using Int32.le_iff_toInt_le.mp this
    show z.toInt = ((z.toInt.toNat : Nat) : Int)
    omega
  have hc0 : H[K.1 + a0]? = some (vp_cell (K.2.2 9) (N0, .inl (M.1 a0))) := hP.at hn0 (ce_int ha0)
  have hc1 : H[K.1 + a]? = some (vp_cell (K.2.2 9) (N1, .inl (M.1 a))) := hP.at hn (ce_int ha)
  intro T hT X
  obtain ⟨-, k0, hk0, cm0, hkk0⟩ := (hK.1.2 0 _ rfl).1 N0 (fun j => .int (M.1 a0 j))
  obtain ⟨-, k1, hk1, cm1, hkk1⟩ := (hK.1.2 0 _ rfl).1 N1 (fun j => .int (M.1 a j))
  obtain ⟨vm', X', step⟩ := X.arraycopy hx hown (hts _ hw) (hts _ (gw_of (by decide +kernel) rfl)) (hts _ (gw_of (by decide +kernel) rfl)) (hts _ (gw_of (by decide +kernel) rfl)) (src := K.1 + a0) (dst := K.1 + a) (cs := vp_cell (K.2.2 9) (N0, .inl (M.1 a0))) (cd := vp_cell (K.2.2 9) (N1, .inl (M.1 a))) (srcPos := sp) (destPos := dp) (n := m) (by rw [hT]; exact hc0) (by rw [hT]; exact hc1)
    (fun _ h => by cases h) (fun _ h => by cases h) (fun h => by cases h) (fun h => by cases h) hk0 hk1 hkk0 hkk1 (by simp [refKind]) h1 h2 h3
    (by rw [nn sp h1, nn m h3]; show ¬ _ > ((arrV (K.2.2 9) N0 (fun j => .int (M.1 a0 j))).slots.size : Int); rw [arrV_size]; omega)
    (by rw [nn dp h2, nn m h3]; show ¬ _ > ((arrV (K.2.2 9) N1 (fun j => .int (M.1 a j))).slots.size : Int); rw [arrV_size]; omega)
    (fun vm₁ _ i hi => by
      have e : (vp_cell (K.2.2 9) (N0, .inl (M.1 a0))).slots.getD (sp.toNatClampNeg + i) .null = .int (M.1 a0 (sp.toNatClampNeg + i)) := by
        show (arrV (K.2.2 9) N0 (fun j => .int (M.1 a0 j))).slots.getD _ _ = _
        rw [Array.getD_eq_getD_getElem?, arrV_read _ _ (by omega)]
        rfl
      refine ⟨?_, ?_⟩
      · rw [e]
        rfl
      · rw [e]
        exact trivial)
    (g := F0 (em E) pc ls (.int m :: .int dp :: .ref (K.1 + a) :: .int sp :: .ref (K.1 + a0) :: rest)) rfl (by rw [hml]; exact hl.size) (rest := rest) rfl (by rw [hb]; exact hd) (by omega) (by
      have : nativeFrameWords "java/lang/System" "arraycopy" 5 + 11 ≤ 50 := by decide +kernel
      show 2 * 0 + _ + _ ≤ _
      omega)
  have e1 : copied (vp_cell (K.2.2 9) (N0, .inl (M.1 a0))) (vp_cell (K.2.2 9) (N1, .inl (M.1 a))) sp dp m = vp_cell (K.2.2 9) (N1, .inl (va_cpy (M.1 a0) (M.1 a) sp.toNatClampNeg dp.toNatClampNeg m.toNatClampNeg)) := va_copied (fun z => .int z) _ _ _ _ h4
  rw [e1] at X' step
  generalize hcc : vp_cell (K.2.2 9) (N1, .inl (va_cpy (M.1 a0) (M.1 a) sp.toNatClampNeg dp.toNatClampNeg m.toNatClampNeg)) = cc at X' step
  have hlt : K.1 + a < H.size := (Array.getElem?_eq_some_iff.mp hc1).1
  have hheap : ((T.setVm vm').setCell (K.1 + a) cc).heap = H.setIfInBounds (K.1 + a) cc := by rw [← hT]; rfl
  have oq : ∀ q : Nat, q ≠ K.1 + a → (H.setIfInBounds (K.1 + a) cc)[q]? = H[q]? := fun q hq => by simp [Array.getElem?_setIfInBounds, Ne.symm hq]
  obtain ⟨t, a1, b1⟩ := kk ok (H.setIfInBounds (K.1 + a) cc) _ ls (hP.store (e := .inl (K.2.2 9, N1, .inl (va_cpy (M.1 a0) (M.1 a) sp.toNatClampNeg dp.toNatClampNeg m.toNatClampNeg))) (show (H.setIfInBounds (K.1 + a) cc)[K.1 + a]? = some _ by rw [← hcc]; simp [Array.getElem?_setIfInBounds, hlt]) (by rw [ce_int ha, wC_row]) (by simp) oq (fun b hb => wC_ne hb)) ⟨by simp; exact hS.1, fun q g1 g2 => by
      rw [oq q (fun e => g2 (by rw [e]; exact Nat.le_add_right _ _))]
      exact hS.2.1 q g1 g2, fun q hq => by
      rcases List.mem_append.mp hq with h | h
      · exact hS.2.2 q h
      · obtain ⟨z, -, hz⟩ := List.mem_map.mp h
        rw [← hz]
        exact Nat.le_add_right _ _⟩ hl _ hheap X'
  exact ⟨t, step t a1, b1⟩
/-! the law's own script -/
theorem wp_sld {b Ls : Nat} {xs : Nat → Int32} {i : Int32} (hd : decode μ.2.1 pc = .ok (.iaload, 1)) (hX : va_X b Ls xs (es E) (es E).heap) (hbl : b < (es E).heap.size) (hbK : b < K.1) (hin : vp_in i Ls) (kk : Wp E K μ d f (pc + 1) L (.int (xs i.toNatClampNeg) :: st) nx M k n Z) : Wp E K μ d f pc L (.int i :: .ref b :: st) nx M k n Z :=
  fun ok H locs ls hP hS hl => va_sld ok.1 ok.2.1 hX hbl (Nat.not_le.mpr hbK) hS hin hd (kk ok H locs ls hP hS hl)
theorem wp_slen {b Ls : Nat} {xs : Nat → Int32} (hd : decode μ.2.1 pc = .ok (.arraylength, 1)) (hX : va_X b Ls xs (es E) (es E).heap) (hbl : b < (es E).heap.size) (hbK : b < K.1) (kk : Wp E K μ d f (pc + 1) L (.int (Int32.ofNat Ls) :: st) nx M k n Z) : Wp E K μ d f pc L (.ref b :: st) nx M k n Z :=
  fun ok H locs ls hP hS hl => va_slen ok.1 ok.2.1 hX hbl (Nat.not_le.mpr hbK) hS hd (kk ok H locs ls hP hS hl)
end COPY
