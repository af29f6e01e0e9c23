/-! what goes on holding of a page -/
theorem lt0_nI {s : Nat} (h : 0 < nI s) (hs : s ≤ 3) : 1 ≤ s := by
  rcases Nat.eq_zero_or_pos s with q | q
  · subst q; exact absurd h (by decide)
  · exact q
theorem k_no9 {d : Nat} (hd : d < 4) : nI d ≠ no9 := by
  have e : ∀ d, d < 4 → nI d ≠ no9 := by decide
  exact e d hd
theorem OkP.serv {Λ : Lw} {P : Pg} {h m : Nat} (H : OkP Λ P h) (hL : OkN Λ) (hm : m < lM Λ) (h0 : 0 < P (19 + m)) : OkP Λ (servP P m) h := by
  obtain ⟨h1, h2, h3, h4, h5⟩ := H
  have hD := hL.1
  have hM := hL.2.1
  obtain ⟨k1, k2, ⟨s, hs, k3⟩, k4⟩ := h3 m hm
  have hs1 := lt0_nI (by rw [k3] at h0; exact h0) hs
  have e1 : P (19 + m) - nI 1 = nI (s - 1) := by rw [k3, pk_sub hs1]
  have hA : ∀ j, j ≠ 19 + m → j ≠ 13 + m → servP P m j = P j := by
    intro j n1 n2
    unfold servP
    split <;> simp [upd, n1, n2]
  have hB : servP P m (19 + m) = nI (s - 1) := by
    unfold servP
    rw [e1]
    split <;> simp [upd, show 19 + m ≠ 13 + m by omega]
  have hC : servP P m (13 + m) = if s = 1 ∧ P (8 + m) ≠ no9 then P (P (8 + m)).toNatClampNeg else P (13 + m) := by
    unfold servP
    rw [e1]
    by_cases c : s = 1
    · subst c
      by_cases c2 : P (8 + m) = no9
      · simp [upd, c2, show 13 + m ≠ 19 + m by omega]
      · simp [upd, c2, show ¬ (0 : Int32) < nI (1 - 1) by decide]
    · have : (0 : Int32) < nI (s - 1) := nI_lt (show 0 < s - 1 by omega) (by omega)
      simp [upd, c, this, show 13 + m ≠ 19 + m by omega]
  refine ⟨by rw [hA 24 (by omega) (by omega)]; exact h1, fun d hd => by rw [hA d (by omega) (by omega)]; exact h2 d hd, fun m' hm' => ?_, fun d h6 h7 => ?_, fun m' h6 h7 => ?_⟩
  · by_cases e : m' = m
    · subst e
      refine ⟨by rw [hA (8 + m') (by omega) (by omega)]; exact k1, ?_, ⟨s - 1, by omega, hB⟩, ?_⟩
      · rw [hC]
        split
        · rename_i q
          rcases k1 with r | ⟨d, hd, r⟩
          · exact absurd r q.2
          · rw [r, nI_clamp (by omega)]; exact h2 d hd
        · exact k2
      · intro d hd q1 q2
        rw [hA (8 + m') (by omega) (by omega)] at q1
        rw [hB] at q2
        have : s - 1 = 0 := (nI_eq (by omega) (by decide)).mp q2
        rw [hC, hA d (by omega) (by omega), if_pos ⟨by omega, by rw [q1]; exact k_no9 (by omega)⟩, q1, nI_clamp (by omega)]
    · obtain ⟨g1, g2, g3, g4⟩ := h3 m' hm'
      refine ⟨by rw [hA (8 + m') (by omega) (by omega)]; exact g1, by rw [hA (13 + m') (by omega) (by omega)]; exact g2, by rw [hA (19 + m') (by omega) (by omega)]; exact g3, fun d hd => ?_⟩
      rw [hA (8 + m') (by omega) (by omega), hA (13 + m') (by omega) (by omega), hA (19 + m') (by omega) (by omega), hA d (by omega) (by omega)]
      exact g4 d hd
  · rw [hA d (by omega) (by omega), hA (4 + d) (by omega) (by omega)]; exact h4 d h6 h7
  · rw [hA (8 + m') (by omega) (by omega), hA (13 + m') (by omega) (by omega), hA (19 + m') (by omega) (by omega)]; exact h5 m' h6 h7
theorem OkP.cat {Λ : Lw} {P : Pg} {h m : Nat} (H : OkP Λ P h) (hL : OkN Λ) (hm : m < lM Λ) : OkP Λ (catP P m) h := by
  obtain ⟨h1, h2, h3, h4, h5⟩ := H
  have hD := hL.1
  have hM := hL.2.1
  obtain ⟨k1, k2, k3, k4⟩ := h3 m hm
  have hk : P (8 + m) ≠ no9 → ∃ d, d < lD Λ ∧ (P (8 + m)).toNatClampNeg = d := by
    intro q
    rcases k1 with r | ⟨d, hd, r⟩
    · exact absurd r q
    · exact ⟨d, hd, by rw [r, nI_clamp (by omega)]⟩
  have hA : ∀ j, j ≠ 19 + m → (∀ d, d < lD Λ → j ≠ 4 + d) → catP P m j = P j := by
    intro j n1 n2
    unfold catP
    split
    · rename_i q
      obtain ⟨d, hd, e⟩ := hk q
      rw [e]
      simp [upd, n1, n2 d hd]
    · simp [upd, n1]
  have hB : catP P m (19 + m) = nI 3 := by
    unfold catP
    split
    · rename_i q
      obtain ⟨d, hd, e⟩ := hk q
      rw [e]
      simp [upd, show 19 + m ≠ 4 + d by omega]
    · simp [upd]
  refine ⟨by rw [hA 24 (by omega) (fun d hd => by omega)]; exact h1, fun d hd => by rw [hA d (by omega) (fun d hd => by omega)]; exact h2 d hd, fun m' hm' => ?_, fun d h6 h7 => ?_, fun m' h6 h7 => ?_⟩
  · by_cases e : m' = m
    · subst e
      refine ⟨by rw [hA (8 + m') (by omega) (fun d hd => by omega)]; exact k1, by rw [hA (13 + m') (by omega) (fun d hd => by omega)]; exact k2, ⟨3, by omega, hB⟩, ?_⟩
      intro d hd q1 q2
      rw [hB] at q2
      exact absurd q2 (by decide)
    · obtain ⟨g1, g2, g3, g4⟩ := h3 m' hm'
      refine ⟨by rw [hA (8 + m') (by omega) (fun d hd => by omega)]; exact g1, by rw [hA (13 + m') (by omega) (fun d hd => by omega)]; exact g2, by rw [hA (19 + m') (by omega) (fun d hd => by omega)]; exact g3, fun d hd => ?_⟩
      rw [hA (8 + m') (by omega) (fun d hd => by omega), hA (13 + m') (by omega) (fun d hd => by omega), hA (19 + m') (by omega) (fun d hd => by omega), hA d (by omega) (fun d hd => by omega)]
      exact g4 d hd
  · rw [hA d (by omega) (fun d hd => by omega), hA (4 + d) (by omega) (fun d hd => by omega)]; exact h4 d h6 h7
  · rw [hA (8 + m') (by omega) (fun d hd => by omega), hA (13 + m') (by omega) (fun d hd => by omega), hA (19 + m') (by omega) (fun d hd => by omega)]; exact h5 m' h6 h7
theorem OkP.hit {Λ : Lw} {P : Pg} {h : Nat} (H : OkP Λ P h) (hL : OkN Λ) (late : Bool) (wd : Int32) : ∀ m, m ≤ lM Λ → OkP Λ (hitP Λ late wd (nI 0, P) m).2 h ∧ ∃ a, a < 2 ^ m ∧ (hitP Λ late wd (nI 0, P) m).1 = nI a
  | 0, _ => ⟨H, 0, by decide, rfl⟩
  | m + 1, hm => by
    have hM := hL.2.1
    obtain ⟨i1, a, i2, i3⟩ := OkP.hit H hL late wd m (by omega)
    show OkP Λ (hstP Λ late wd (hitP Λ late wd (nI 0, P) m) m).2 h ∧ ∃ a, a < 2 ^ (m + 1) ∧ (hstP Λ late wd (hitP Λ late wd (nI 0, P) m) m).1 = nI a
    have hw : a < 2 ^ (m + 1) := Nat.lt_of_lt_of_le i2 (Nat.pow_le_pow_right (by decide) (by omega))
    unfold hstP
    split
    · exact ⟨i1.serv hL (by omega) (by assumption), a, hw, i3⟩
    · split
      · exact ⟨i1.cat hL (by omega), a ||| 2 ^ m, or_lt i2 (Nat.lt_succ_self m), by rw [i3, or_bit (by omega)]⟩
      · exact ⟨i1, a, hw, i3⟩
theorem OkP.hour {Λ : Lw} {P : Pg} {h : Nat} (H : OkP Λ P h) (hL : OkN Λ) (far : Nat) (x : Int32) : OkP Λ (hourP Λ P h far x).2 (h + 1) := by
  have hD := hL.1
  have hM := hL.2.1
  obtain ⟨h1, h2, h3, h4, h5⟩ := (H.hit hL (decide (x ≤ nI (h % 12))) (lRo Λ ((h + far) % 4)) (lM Λ) (Nat.le_refl _)).1
  show OkP Λ (upd (hitP Λ (decide (x ≤ nI (h % 12))) (lRo Λ ((h + far) % 4)) (nI 0, P) (lM Λ)).2 24 ((hitP Λ (decide (x ≤ nI (h % 12))) (lRo Λ ((h + far) % 4)) (nI 0, P) (lM Λ)).2 24 + nI 1)) (h + 1)
  generalize (hitP Λ (decide (x ≤ nI (h % 12))) (lRo Λ ((h + far) % 4)) (nI 0, P) (lM Λ)).2 = Q at h1 h2 h3 h4 h5 ⊢
  have hA : ∀ j, j < 24 → upd Q 24 (Q 24 + nI 1) j = Q j := fun j hj => by simp [upd, show j ≠ 24 by omega]
  refine ⟨by show upd Q 24 (Q 24 + nI 1) 24 = _; rw [h1, show nI h + nI 1 = nI (h + 1) from nI_1 h]; simp [upd], fun d hd => ?_, fun m' hm' => ?_, fun d h6 h7 => ?_, fun m' h6 h7 => ?_⟩
  · show ∃ s, s < 5 ∧ upd Q 24 (Q 24 + nI 1) d = nI s
    rw [hA d (by omega)]; exact h2 d hd
  · show (upd Q 24 (Q 24 + nI 1) (8 + m') = no9 ∨ ∃ d, d < lD Λ ∧ upd Q 24 (Q 24 + nI 1) (8 + m') = nI d) ∧ (∃ s, s < 5 ∧ upd Q 24 (Q 24 + nI 1) (13 + m') = nI s) ∧ (∃ s, s ≤ 3 ∧ upd Q 24 (Q 24 + nI 1) (19 + m') = nI s) ∧ (∀ d, d < lD Λ → upd Q 24 (Q 24 + nI 1) (8 + m') = nI d → upd Q 24 (Q 24 + nI 1) (19 + m') = nI 0 → upd Q 24 (Q 24 + nI 1) (13 + m') = upd Q 24 (Q 24 + nI 1) d)
    rw [hA (8 + m') (by omega), hA (13 + m') (by omega), hA (19 + m') (by omega)]
    obtain ⟨g1, g2, g3, g4⟩ := h3 m' hm'
    exact ⟨g1, g2, g3, fun d hd => by rw [hA d (by omega)]; exact g4 d hd⟩
  · show upd Q 24 (Q 24 + nI 1) d = 0 ∧ upd Q 24 (Q 24 + nI 1) (4 + d) = 0
    rw [hA d (by omega), hA (4 + d) (by omega)]; exact h4 d h6 h7
  · show upd Q 24 (Q 24 + nI 1) (8 + m') = 0 ∧ upd Q 24 (Q 24 + nI 1) (13 + m') = 0 ∧ upd Q 24 (Q 24 + nI 1) (19 + m') = 0
    rw [hA (8 + m') (by omega), hA (13 + m') (by omega), hA (19 + m') (by omega)]; exact h5 m' h6 h7
theorem hour_lt {Λ : Lw} {P : Pg} {h : Nat} (H : OkP Λ P h) (hL : OkN Λ) (far : Nat) (x : Int32) : ∃ a, a < 32 ∧ (hourP Λ P h far x).1 = nI a := by
  obtain ⟨a, h1, h2⟩ := (H.hit hL (decide (x ≤ nI (h % 12))) (lRo Λ ((h + far) % 4)) (lM Λ) (Nat.le_refl _)).2
  exact ⟨a, lt32 h1 hL.2.1, h2⟩
theorem stN_lt5 (s w : Nat) : stN s w < 5 := Nat.mod_lt _ (by decide)
theorem OkP.go {Λ : Lw} {P : Pg} {h d v : Nat} (H : OkP Λ P h) (hL : OkN Λ) (hd : d < lD Λ) : OkP Λ (goP Λ P d v) h := by
  obtain ⟨h1, h2, h3, h4, h5⟩ := H
  have hD := hL.1
  have hM := hL.2.1
  have hs := stN_lt5 (sN P d) v
  unfold goP
  generalize stN (sN P d) v = s at hs ⊢
  have hA : ∀ j, j ≠ d → (j < 13 ∨ 18 ≤ j) → goPn P d s (lM Λ) j = P j := by
    intro j n1 n2
    unfold goPn
    rw [if_neg n1, if_neg (by omega)]
  have hB : goPn P d s (lM Λ) d = nI s := by
    unfold goPn
    rw [if_pos rfl]
  have hC : ∀ m, m < 5 → goPn P d s (lM Λ) (13 + m) = if m < lM Λ ∧ P (8 + m) = nI d ∧ ¬ 0 < P (19 + m) then nI s else P (13 + m) := by
    intro m hm
    unfold goPn
    rw [if_neg (by omega), show 13 + m - 13 = m by omega]
    by_cases c : m < lM Λ ∧ P (8 + m) = nI d ∧ ¬ 0 < P (19 + m)
    · rw [if_pos c, if_pos ⟨by omega, by omega, c.2⟩]
    · rw [if_neg c, if_neg (fun q => c ⟨by omega, q.2.2⟩)]
  refine ⟨by rw [hA 24 (by omega) (by omega)]; exact h1, fun e he => ?_, fun m' hm' => ?_, fun e h6 h7 => ?_, fun m' h6 h7 => ?_⟩
  · by_cases q : e = d
    · subst q; rw [hB]; exact ⟨s, hs, rfl⟩
    · rw [hA e q (by omega)]; exact h2 e he
  · obtain ⟨g1, g2, g3, g4⟩ := h3 m' hm'
    rw [hA (8 + m') (by omega) (by omega), hA (19 + m') (by omega) (by omega), hC m' (by omega)]
    refine ⟨g1, ?_, g3, fun e he q1 q2 => ?_⟩
    · split
      · exact ⟨s, hs, rfl⟩
      · exact g2
    · by_cases q : e = d
      · subst q
        rw [hB, if_pos ⟨hm', q1, by rw [q2]; decide⟩]
      · rw [hA e q (by omega), if_neg (fun r => q ((nI_eq (by omega) (by omega)).mp (q1.symm.trans r.2.1)))]
        exact g4 e he q1 q2
  · rw [hA e (by omega) (by omega), hA (4 + e) (by omega) (by omega)]; exact h4 e h6 h7
  · rw [hA (8 + m') (by omega) (by omega), hA (19 + m') (by omega) (by omega), hC m' h7, if_neg (by omega)]; exact h5 m' h6 h7
