/-! the law's start, its loop, its end -/
theorem cl_ki {ci : Nat} {C : String} {T : u_T} {N : Nat} (h : vwCl[ci]? = some (C, T, N)) : Cond.instantiable C N ∈ gw := by
  match ci, h with
  | 0, h => cases h; exact ki_X0
  | 1, h => cases h; exact ki_X1
  | 2, h => cases h; exact ki_X2
  | 3, h => cases h; exact ki_X3
  | 4, h => cases h; exact ki_X5
  | 5, h => cases h; exact ki_X6
  | 6, h => cases h; exact ki_X7
  | 7, h => cases h; exact ki_X8
  | 8, h => cases h; exact ki_X9
  | n + 9, h => exact absurd (cl_lt h) (by omega)
theorem ao_T : Cond.arrayOver (.object "HoundLicence$Town") ∈ lw_tbl := List.mem_of_getElem? (i := 198) (by decide +kernel)
theorem ao_A : Cond.arrayOver (.array .int) ∈ lw_tbl := List.mem_of_getElem? (i := 230) (by decide +kernel)
theorem kx_start {s : State} {b : Nat} (hts : ∀ w ∈ lw_tbl, w.before #[Value.ref b] s = true) : ∃ (D : va_G) (A : Nat → ClassId), Kx (s.heap.size, D, A) s := by
  have hg : ∀ w ∈ gw, w.before #[Value.ref b] s = true := fun w hw => hts w (List.mem_filter.mp hw).1
  have h1 : ∀ (c : Nat) (q : vw_C), vwCl[c]? = some q → ∃ p : ClassId × (Nat → Nat), u_Kn s q.1 q.2.1 q.2.2 p.1 p.2 := fun c q hq => by
    obtain ⟨C, T, N⟩ := q
    obtain ⟨cC, iS, hk⟩ := u_known hg (cl_ws hq) (hg _ (cl_ki hq))
    exact ⟨(cC, iS), hk⟩
  obtain ⟨p0, -⟩ := h1 0 _ rfl
  have hc : ∀ c : Nat, ∃ p : ClassId × (Nat → Nat), ∀ q : vw_C, vwCl[c]? = some q → u_Kn s q.1 q.2.1 q.2.2 p.1 p.2 := by
    intro c
    cases hq : vwCl[c]? with
    | none => exact ⟨p0, fun q h => by cases h⟩
    | some q =>
      obtain ⟨p, hp⟩ := h1 c q hq
      exact ⟨p, fun q' h' => by cases h'; exact hp⟩
  obtain ⟨D, hD⟩ := Classical.axiomOfChoice hc
  obtain ⟨c9, k9, m9, a1, a2, a3⟩ := Cond.arrayClass_spec (hg _ ka_int)
  obtain ⟨c10, k10, m10, b1, b2, b3⟩ := Cond.arrayClass_spec (hg _ ka_boolean)
  obtain ⟨m11, c11, k11, d1, d2, d3, d4, d5⟩ := Cond.arrayOver_spec (hts _ ao_T)
  obtain ⟨m12, c12, k12, e1, e2, e3, e4⟩ := Cond.arrayOver_specA (hts _ ao_A)
  refine ⟨(fun c => (D c).1, fun c => (D c).2), fun k => if k = 9 then c9 else if k = 10 then c10 else if k = 11 then c11 else c12, ⟨fun c q hq => hD c q hq, fun k q hk => ?_⟩, fun w hw => va_Nw.of (ex_tab (exW_ok w hw)) (hts w (List.mem_filter.mp hw).1), fun ty hty => ?_⟩
  · match k, hk with
    | 0, hk => cases hk; exact ⟨fun n z => ⟨fun k h => (by cases h), k9, a2, m9, a3⟩, a1⟩
    | 1, hk => cases hk; exact ⟨fun n z => ⟨fun k h => (by cases h), k10, b2, m10, b3⟩, b1⟩
    | 2, hk => cases hk; exact ⟨fun n z => ⟨fun k h => (by cases h), k11, d3, m11, d4⟩, k11, m11, d3, d4, d1, d5⟩
    | 3, hk => cases hk; exact ⟨fun n z => ⟨fun k h => (by cases h), k12, e2, m12, e3⟩, e4⟩
    | n + 4, hk => cases hk
  · have h : ty = .object "HoundLicence$Town" ∨ ty = .array .int := by simpa [aoT] using hty
    rcases h with rfl | rfl
    · exact ao_vm rfl (hts _ ao_T)
    · exact ao_vm rfl (hts _ ao_A)
theorem end_lt {L i : Nat} (hL : L ≤ 2560) (hi : i ≤ 2600) : nI L - nI 5 < nI i ↔ L < i + 5 := by
  by_cases h : 5 ≤ L
  · rw [pk_sub h, nI_ltI (by omega) (by omega)]
    omega
  · have e : ∀ L, L < 5 → nI L - nI 5 < 0 := by decide +kernel
    have := Int32.lt_of_lt_of_le (e L (by omega)) (show (0 : Int32) ≤ nI i from nI_le (Nat.zero_le i) (by omega))
    exact ⟨fun _ => by omega, fun _ => this⟩
theorem law_loop {E : EnvT} {K : CtxT} {Z : State → Prop} {b L : Nat} {xs : Nat → Int32} (hX : va_X b L xs (es E) (es E).heap) (hbl : b < (es E).heap.size) (hbK : b < K.1) (hL : L ≤ 2560) (hend : ∀ L0 M, Wp E K mL_law 12 (600000, 7302250) 938 L0 [.int (nI 1)] 168 M 168 1456 Z) : ∀ (q B : Nat) (s : Sv) (M : Mm), 2600 - 5 * B ≤ q → 5 * B ≤ L + 4 → ST B s M → Wp E K mL_law 12 (600000, 7302250) 18 [some (.ref b), some (.ref (K.1 + 0)), some (.ref (K.1 + 150)), some (.int (nI (5 * B)))] [] 168 M 168 1456 Z := by
  have top : ∀ (B : Nat) (s : Sv) (M : Mm), 5 * B ≤ L + 4 → (5 * B + 5 ≤ L → Wp E K mL_law 12 (600000, 7302250) 26 [some (.ref b), some (.ref (K.1 + 0)), some (.ref (K.1 + 150)), some (.int (nI (5 * B)))] [] 168 M 168 1456 Z) → Wp E K mL_law 12 (600000, 7302250) 18 [some (.ref b), some (.ref (K.1 + 0)), some (.ref (K.1 + 150)), some (.int (nI (5 * B)))] [] 168 M 168 1456 Z := by
    intro B s M hi go
    refine wp_iload_n (pc := 18) dL_law_18 rfl ?_
    refine wp_aload_n (pc := 19) dL_law_19 rfl ?_
    refine wp_slen (pc := 20) dL_law_20 hX hbl hbK ?_
    refine wp_ic (pc := 21) (x := nI 5) dL_law_21 ic_5 ?_
    refine wp_isub (pc := 22) dL_law_22 ?_
    refine wp_icmp_gt (pc := 23) 937 dL_law_23 (by decide) (fun h23 => ?_) (fun h23 => ?_)
    · refine wp_ic (pc := 937) (x := nI 1) dL_law_937 ic_1 ?_
      exact hend _ M
    · have h9 : ¬ L < 5 * B + 5 := fun q => h23 ((end_lt hL (by omega)).mpr q)
      exact go (by omega)
  intro q
  induction q with
  | zero =>
    intro B s M hq hi h
    exact top B s M hi (fun w => by omega)
  | succ q ih =>
    intro B s M hq hi h
    refine top B s M hi (fun hi5 => ?_)
    have cont : ∀ s' M', ST (B + 1) s' M' → Wp E K mL_law 12 (600000, 7302250) 931 [some (.ref b), some (.ref (K.1 + 0)), some (.ref (K.1 + 150)), some (.int (nI (5 * B)))] [] 168 M' 168 1456 Z := by
      intro s' M' h'
      refine wp_iinc (pc := 931) (L' := [some (.ref b), some (.ref (K.1 + 0)), some (.ref (K.1 + 150)), some (.int (nI (5 * (B + 1))))]) dL_law_931 rfl rfl (by rw [show nI (5 * (B + 1)) = nI (5 * B) + Int32.ofInt 5 from (nI_add (5 * B) 5).symm]; rfl) ?_
      refine wp_goto (pc := 934) 18 dL_law_934 (by decide) ?_
      exact ih (B + 1) s' M' (by omega) (by omega) h'
    refine wp_aload_n (pc := 26) dL_law_26 rfl ?_
    refine wp_iload_n (pc := 27) dL_law_27 rfl ?_
    refine ws_at (pc := 28) hX hbl hbK hL dL_law_28 (by omega) ?_
    refine wp_bipush (pc := 29) (x := nI 31) dL_law_29 bp_31 ?_
    refine wp_iand (pc := 31) dL_law_31 ?_
    by_cases e0 : xs (5 * B) &&& nI 31 = nI 0
    · refine wp_tabIn (pc := 32) 160 dL_law_32 (by rw [e0]; decide) (by rw [e0]; decide) (by rw [e0]; rfl) (by decide) ?_
      exact law_write hX hbl hbK hL h (by omega) hi5 cont
    by_cases e1 : xs (5 * B) &&& nI 31 = nI 1
    · refine wp_tabIn (pc := 32) 183 dL_law_32 (by rw [e1]; decide) (by rw [e1]; decide) (by rw [e1]; rfl) (by decide) ?_
      exact law_wipe hX hbl hbK hL h (by omega) hi5 cont
    by_cases e2 : xs (5 * B) &&& nI 31 = nI 2
    · refine wp_tabIn (pc := 32) 196 dL_law_32 (by rw [e2]; decide) (by rw [e2]; decide) (by rw [e2]; rfl) (by decide) ?_
      exact law_fault hX hbl hbK hL h (by omega) hi5 cont
    by_cases e3 : xs (5 * B) &&& nI 31 = nI 3
    · refine wp_tabIn (pc := 32) 209 dL_law_32 (by rw [e3]; decide) (by rw [e3]; decide) (by rw [e3]; rfl) (by decide) ?_
      exact law_ordain hX hbl hbK hL h (by omega) hi5 cont
    by_cases e4 : xs (5 * B) &&& nI 31 = nI 4
    · refine wp_tabIn (pc := 32) 222 dL_law_32 (by rw [e4]; decide) (by rw [e4]; decide) (by rw [e4]; rfl) (by decide) ?_
      exact law_about hX hbl hbK hL h (by omega) hi5 cont
    by_cases e5 : xs (5 * B) &&& nI 31 = nI 5
    · refine wp_tabIn (pc := 32) 245 dL_law_32 (by rw [e5]; decide) (by rw [e5]; decide) (by rw [e5]; rfl) (by decide) ?_
      exact law_dog hX hbl hbK hL h (by omega) hi5 cont
    by_cases e6 : xs (5 * B) &&& nI 31 = nI 6
    · refine wp_tabIn (pc := 32) 278 dL_law_32 (by rw [e6]; decide) (by rw [e6]; decide) (by rw [e6]; rfl) (by decide) ?_
      exact law_man hX hbl hbK hL h (by omega) hi5 cont
    by_cases e7 : xs (5 * B) &&& nI 31 = nI 7
    · refine wp_tabIn (pc := 32) 311 dL_law_32 (by rw [e7]; decide) (by rw [e7]; decide) (by rw [e7]; rfl) (by decide) ?_
      exact law_lead hX hbl hbK hL h (by omega) hi5 cont
    by_cases e8 : xs (5 * B) &&& nI 31 = nI 8
    · refine wp_tabIn (pc := 32) 344 dL_law_32 (by rw [e8]; decide) (by rw [e8]; decide) (by rw [e8]; rfl) (by decide) ?_
      exact law_leash hX hbl hbK hL h (by omega) hi5 cont
    by_cases e9 : xs (5 * B) &&& nI 31 = nI 9
    · refine wp_tabIn (pc := 32) 367 dL_law_32 (by rw [e9]; decide) (by rw [e9]; decide) (by rw [e9]; rfl) (by decide) ?_
      exact law_give hX hbl hbK hL h (by omega) hi5 cont
    by_cases e10 : xs (5 * B) &&& nI 31 = nI 10
    · refine wp_tabIn (pc := 32) 400 dL_law_32 (by rw [e10]; decide) (by rw [e10]; decide) (by rw [e10]; rfl) (by decide) ?_
      exact law_hour hX hbl hbK hL h (by omega) hi5 cont
    by_cases e11 : xs (5 * B) &&& nI 31 = nI 11
    · refine wp_tabIn (pc := 32) 413 dL_law_32 (by rw [e11]; decide) (by rw [e11]; decide) (by rw [e11]; rfl) (by decide) ?_
      exact law_undo hX hbl hbK hL h (by omega) hi5 cont
    by_cases e12 : xs (5 * B) &&& nI 31 = nI 12
    · refine wp_tabIn (pc := 32) 426 dL_law_32 (by rw [e12]; decide) (by rw [e12]; decide) (by rw [e12]; rfl) (by decide) ?_
      exact law_caught hX hbl hbK hL h (by omega) hi5 cont
    by_cases e13 : xs (5 * B) &&& nI 31 = nI 13
    · refine wp_tabIn (pc := 32) 449 dL_law_32 (by rw [e13]; decide) (by rw [e13]; decide) (by rw [e13]; rfl) (by decide) ?_
      exact law_routes hX hbl hbK hL h (by omega) hi5 cont
    by_cases e14 : xs (5 * B) &&& nI 31 = nI 14
    · refine wp_tabIn (pc := 32) 502 dL_law_32 (by rw [e14]; decide) (by rw [e14]; decide) (by rw [e14]; rfl) (by decide) ?_
      exact law_aired hX hbl hbK hL h (by omega) hi5 cont
    by_cases e15 : xs (5 * B) &&& nI 31 = nI 15
    · refine wp_tabIn (pc := 32) 525 dL_law_32 (by rw [e15]; decide) (by rw [e15]; decide) (by rw [e15]; rfl) (by decide) ?_
      exact law_heir hX hbl hbK hL h (by omega) hi5 cont
    by_cases e16 : xs (5 * B) &&& nI 31 = nI 16
    · refine wp_tabIn (pc := 32) 548 dL_law_32 (by rw [e16]; decide) (by rw [e16]; decide) (by rw [e16]; rfl) (by decide) ?_
      exact law_pays hX hbl hbK hL h (by omega) hi5 cont
    by_cases e17 : xs (5 * B) &&& nI 31 = nI 17
    · refine wp_tabIn (pc := 32) 581 dL_law_32 (by rw [e17]; decide) (by rw [e17]; decide) (by rw [e17]; rfl) (by decide) ?_
      exact law_spans hX hbl hbK hL h (by omega) hi5 cont
    by_cases e18 : xs (5 * B) &&& nI 31 = nI 18
    · refine wp_tabIn (pc := 32) 624 dL_law_32 (by rw [e18]; decide) (by rw [e18]; decide) (by rw [e18]; rfl) (by decide) ?_
      exact law_see hX hbl hbK hL h (by omega) hi5 cont
    by_cases e19 : xs (5 * B) &&& nI 31 = nI 19
    · refine wp_tabIn (pc := 32) 667 dL_law_32 (by rw [e19]; decide) (by rw [e19]; decide) (by rw [e19]; rfl) (by decide) ?_
      exact law_unsee hX hbl hbK hL h (by omega) hi5 cont
    by_cases e20 : xs (5 * B) &&& nI 31 = nI 20
    · refine wp_tabIn (pc := 32) 680 dL_law_32 (by rw [e20]; decide) (by rw [e20]; decide) (by rw [e20]; rfl) (by decide) ?_
      exact law_walks hX hbl hbK hL h (by omega) hi5 cont
    by_cases e21 : xs (5 * B) &&& nI 31 = nI 21
    · refine wp_tabIn (pc := 32) 693 dL_law_32 (by rw [e21]; decide) (by rw [e21]; decide) (by rw [e21]; rfl) (by decide) ?_
      exact law_sure hX hbl hbK hL h (by omega) hi5 cont
    by_cases e22 : xs (5 * B) &&& nI 31 = nI 22
    · refine wp_tabIn (pc := 32) 716 dL_law_32 (by rw [e22]; decide) (by rw [e22]; decide) (by rw [e22]; rfl) (by decide) ?_
      exact law_rests hX hbl hbK hL h (by omega) hi5 cont
    by_cases e23 : xs (5 * B) &&& nI 31 = nI 23
    · refine wp_tabIn (pc := 32) 749 dL_law_32 (by rw [e23]; decide) (by rw [e23]; decide) (by rw [e23]; rfl) (by decide) ?_
      exact law_chance hX hbl hbK hL h (by omega) hi5 cont
    by_cases e24 : xs (5 * B) &&& nI 31 = nI 24
    · refine wp_tabIn (pc := 32) 808 dL_law_32 (by rw [e24]; decide) (by rw [e24]; decide) (by rw [e24]; rfl) (by decide) ?_
      exact law_seed hX hbl hbK hL h (by omega) hi5 cont
    by_cases e25 : xs (5 * B) &&& nI 31 = nI 25
    · refine wp_tabIn (pc := 32) 862 dL_law_32 (by rw [e25]; decide) (by rw [e25]; decide) (by rw [e25]; rfl) (by decide) ?_
      exact law_days hX hbl hbK hL h (by omega) hi5 cont
    by_cases e26 : xs (5 * B) &&& nI 31 = nI 26
    · refine wp_tabIn (pc := 32) 885 dL_law_32 (by rw [e26]; decide) (by rw [e26]; decide) (by rw [e26]; rfl) (by decide) ?_
      exact law_keep hX hbl hbK hL h (by omega) hi5 cont
    by_cases e27 : xs (5 * B) &&& nI 31 = nI 27
    · refine wp_tabIn (pc := 32) 908 dL_law_32 (by rw [e27]; decide) (by rw [e27]; decide) (by rw [e27]; rfl) (by decide) ?_
      exact law_again hX hbl hbK hL h (by omega) hi5 cont
    have eN : ∀ i, i ≤ 27 → ¬ xs (5 * B) &&& nI 31 = nI i := by
      intro i hi
      have : i = 0 ∨ i = 1 ∨ i = 2 ∨ i = 3 ∨ i = 4 ∨ i = 5 ∨ i = 6 ∨ i = 7 ∨ i = 8 ∨ i = 9 ∨ i = 10 ∨ i = 11 ∨ i = 12 ∨ i = 13 ∨ i = 14 ∨ i = 15 ∨ i = 16 ∨ i = 17 ∨ i = 18 ∨ i = 19 ∨ i = 20 ∨ i = 21 ∨ i = 22 ∨ i = 23 ∨ i = 24 ∨ i = 25 ∨ i = 26 ∨ i = 27 := by omega
      rcases this with rfl | rfl | rfl | rfl | rfl | rfl | rfl | rfl | rfl | rfl | rfl | rfl | rfl | rfl | rfl | rfl | rfl | rfl | rfl | rfl | rfl | rfl | rfl | rfl | rfl | rfl | rfl | rfl
      · exact e0
      · exact e1
      · exact e2
      · exact e3
      · exact e4
      · exact e5
      · exact e6
      · exact e7
      · exact e8
      · exact e9
      · exact e10
      · exact e11
      · exact e12
      · exact e13
      · exact e14
      · exact e15
      · exact e16
      · exact e17
      · exact e18
      · exact e19
      · exact e20
      · exact e21
      · exact e22
      · exact e23
      · exact e24
      · exact e25
      · exact e26
      · exact e27
    refine wp_tabOut (pc := 32) 931 dL_law_32 (tab_out (by decide) eN) (by decide) ?_
    exact cont s M ⟨h.1, h.2.1, h.2.2.1.up (Nat.le_succ B), h.2.2.2⟩
