/-! class and reference side by side -/
theorem XT.e {M M' : Mm} {t : Nat} {Λ : Lw} {P : Pg} (e : ∀ a, a < 150 → ∀ k, M'.1 a k = M.1 a k) (h : XT M t Λ P) (ht : t + 6 ≤ 150) : XT M' t Λ P := by
  obtain ⟨h1, h2, h3, h4⟩ := h
  exact ⟨(e _ (by omega) _).trans h1, (e _ (by omega) _).trans h2, fun d hd => ⟨(e _ (by omega) _).trans (h3 d hd).1, (e _ (by omega) _).trans (h3 d hd).2⟩, fun m hm => ⟨(e _ (by omega) _).trans (h4 m hm).1, (e _ (by omega) _).trans (h4 m hm).2.1, (e _ (by omega) _).trans (h4 m hm).2.2⟩⟩
theorem XL.e {M M' : Mm} {w : Nat} {Λ : Lw} (e : ∀ a, a < 150 → ∀ k, M'.1 a k = M.1 a k) (h : XL M w Λ) (ht : w + 5 ≤ 150) : XL M' w Λ := by
  obtain ⟨h1, h2, h3, h4, h5, h6⟩ := h
  exact ⟨(e _ (by omega) _).trans h1, (e _ (by omega) _).trans h2, (e _ (by omega) _).trans h3, fun m hm => by rw [e _ (by omega)]; exact h4 m hm, fun i hi => (e _ (by omega) _).trans (h5 i hi), fun d hd => ⟨(e _ (by omega) _).trans (h6 d hd).1, (e _ (by omega) _).trans (h6 d hd).2.1, (e _ (by omega) _).trans (h6 d hd).2.2⟩⟩
theorem XI.fm {M M' : Mm} {s : Sv} (H : XI M s) (F : Fm M M') : XI M' s := by
  have e : ∀ a, a < 150 → ∀ k, M'.1 a k = M.1 a k := fun a ha k => (F.1 a ha k).1
  obtain ⟨h1, ⟨t1, t2⟩, h3, h4, ⟨a1, a2, π, a3, a4, a5, a6⟩, ⟨⟨f, k1, k2, k3⟩, k4⟩, ⟨s1, s2⟩, ⟨re, rn, h7⟩, h8⟩ := H
  refine ⟨h1.of F.2, ⟨(e _ (by decide) _).trans t1, fun k hk => (e _ (by decide) _).trans (t2 k hk)⟩, h3.e e (by decide), h4.e e (by decide), ⟨a1, (e _ (by decide) _).trans a2, π, a3, a4, fun i hi => by rw [F.2]; exact a5 i hi, fun i hi => (a6 i hi).e e (by have := a3 i (by omega); omega)⟩, ⟨⟨f, k1, (e _ (by decide) _).trans k2, k3⟩, fun k hk P hP => (k4 k hk P hP).e e (by omega)⟩, ⟨(e _ (by decide) _).trans s1, fun i hi => ⟨(e _ (by decide) _).trans (s2 i hi).1, (e _ (by decide) _).trans (s2 i hi).2.1, (e _ (by decide) _).trans (s2 i hi).2.2⟩⟩, ⟨re, rn, ?_⟩, (F.1 0 (by decide) 10).2.trans h8⟩
  unfold XH
  rw [F.2]
  exact h7
theorem XM.fr {M M' : Mm} {s : Sv} (H : XM M s) (hR : RS M') (F : Fr M M') : XM M' s := by
  have e : ∀ a, 150 ≤ a → ∀ k, M'.1 a k = M.1 a k := fun a ha k => (F a (by omega) k).1
  obtain ⟨h1, ⟨h2, h3⟩, ⟨w1, w2, w3, w4, w5, w6⟩, h4, ⟨h5, h6⟩, h7, ⟨h8, h9⟩, h10⟩ := H
  refine ⟨hR, ⟨(e _ (by decide) _).trans h2, fun k hk => (e _ (by decide) _).trans (h3 k hk)⟩, ⟨(e _ (by decide) _).trans w1, (e _ (by decide) _).trans w2, (e _ (by decide) _).trans w3, fun i hi => (e _ (by decide) _).trans (w4 i hi), fun d hd => ⟨(e _ (by decide) _).trans (w5 d hd).1, (e _ (by decide) _).trans (w5 d hd).2.1, (e _ (by decide) _).trans (w5 d hd).2.2⟩, fun m hm => (e _ (by decide) _).trans (w6 m hm)⟩, fun j hj => (e _ (by decide) _).trans (h4 j hj), ⟨(e _ (by decide) _).trans h5, fun i hi j hj => (e _ (by decide) _).trans (h6 i hi j hj)⟩, fun k hk => ⟨(e _ (by decide) _).trans (h7 k hk).1, fun P hP j hj => (e _ (by decide) _).trans ((h7 k hk).2 P hP j hj)⟩, ⟨(e _ (by decide) _).trans h8, fun i hi => ⟨(e _ (by decide) _).trans (h9 i hi).1, (e _ (by decide) _).trans (h9 i hi).2.1, (e _ (by decide) _).trans (h9 i hi).2.2⟩⟩, (F 150 (by simp) 26).2.trans h10⟩
/-- what the reader's town never gets -/
def XZ (M : Mm) : Prop := (∀ d, d < 4 → M.1 10 d = 0) ∧ (∀ m, m < 5 → M.1 13 m = 0) ∧ M.1 8 0 = 0 ∧ M.1 8 1 = 0
theorem XZ.fr {M M' : Mm} (h : XZ M) (F : Fr M M') : XZ M' := ⟨fun d hd => (F 10 (by simp) d).1.trans (h.1 d hd), fun m hm => (F 13 (by simp) m).1.trans (h.2.1 m hm), (F 8 (by simp) 0).1.trans h.2.2.1, (F 8 (by simp) 1).1.trans h.2.2.2⟩
theorem XZ.fm {M M' : Mm} (h : XZ M) (F : Fm M M') : XZ M' := ⟨fun d hd => (F.1 10 (by decide) d).1.trans (h.1 d hd), fun m hm => (F.1 13 (by decide) m).1.trans (h.2.1 m hm), (F.1 8 (by decide) 0).1.trans h.2.2.1, (F.1 8 (by decide) 1).1.trans h.2.2.2⟩
def ST (B : Nat) (s : Sv) (M : Mm) : Prop := XI M s ∧ XM M s ∧ OkV B s ∧ AcL s.Λ ∧ XZ M
/-- behind a call of both -/
theorem ST.go {B : Nat} {s s' : Sv} {M M1 M2 : Mm} (h : ST B s M) (x1 : XI M1 s') (f1 : Fr M M1) (x2 : XM M2 s') (f2 : Fm M1 M2) (hv : OkV (B + 1) s') (ha : s'.Λ = s.Λ) : ST (B + 1) s' M2 := ⟨x1.fm f2, x2, hv, by rw [ha]; exact h.2.2.2.1, (h.2.2.2.2.fr f1).fm f2⟩
theorem ST.mid {B : Nat} {s s' : Sv} {M M1 : Mm} (h : ST B s M) (x1 : XI M1 s') (f1 : Fr M M1) : XM M1 s := h.2.1.fr x1.r f1
theorem aired_uq {s : Sv} {y a b : Int32} (h1 : rAired s y a) (h2 : rAired s y b) : a = b := by
  unfold rAired at h1 h2
  split at h1
  · rename_i e
    rw [if_pos e] at h2
    unfold rAiredN at h1 h2
    split at h1
    · rename_i e2
      rw [if_pos e2] at h2
      rw [h1, h2]
    · rename_i e2
      rw [if_neg e2] at h2
      exact airP_uniq h1 h2
  · rename_i e
    rw [if_neg e] at h2
    rw [h1, h2]
theorem st0_of {M : Mm} {σ0 : Rs} (h : St0 M σ0) (z : XZ M) : σ0 = (0, σ0.2.1, σ0.2.2.1, σ0.2.2.2.1, σ0.2.2.2.2) ∧ lD σ0.2.2.2.1 = 0 ∧ lM σ0.2.2.2.1 = 0 ∧ ZP σ0.2.2.2.2 := by
  obtain ⟨h1, h2, h3, h4, h5, h6, h7, h8⟩ := h
  refine ⟨?_, h2, h3, fun d hd => (h5 d hd).trans (z.1 d hd), fun m hm => (h6 m hm).trans (z.2.1 m hm), h8.trans z.2.2.2, h7.trans z.2.2.1⟩
  obtain ⟨p, l, q, Λ, P⟩ := σ0
  have h1 : p = 0 := h1
  subst h1
  rfl
theorem rd_fq {M' : Mm} {T : Pg} {n : Nat} {r : Int32} {σ0 : Rs} (h : (∃ k σ, k < n ∧ rnS σ0 T k = some σ ∧ stp σ (T k).toNatClampNeg = none ∧ r = nI k) ∨ (∃ σ, rnS σ0 T n = some σ ∧ OkR σ ∧ XR M' σ.1 σ.2.1 σ.2.2.1 σ.2.2.2.1 σ.2.2.2.2 ∧ r = if σ.1 = 1 then no9 else nI n)) : Fq σ0 T n r := by
  rcases h with ⟨k, σ, h1, h2, h3, h4⟩ | ⟨σ, h1, _, _, h4⟩
  · exact Or.inl ⟨k, ⟨σ, h2, Or.inl ⟨h1, h3⟩⟩, by omega, h4⟩
  · by_cases e : σ.1 = 1
    · rw [if_pos e] at h4; exact Or.inr ⟨h4, σ, h1, e⟩
    · rw [if_neg e] at h4; exact Or.inl ⟨n, ⟨σ, h1, Or.inr ⟨rfl, e⟩⟩, Nat.le_refl _, h4⟩
theorem OkV.ord {B : Nat} {s : Sv} (V : OkV B s) {σ : Rs} (hF : OkF σ.2.2.2.1 σ.2.2.2.2) : OkV (B + 1) (ordS s σ) := ⟨V.n, V.t, hF.1, hF.okp, Nat.zero_le _, by show 0 ≤ 14; decide, fun i hi => absurd hi (Nat.not_lt_zero _), fun k hk P hP => (by cases hP), V.s⟩
/-- the state at the start -/
def s00 : Sv := (fun _ => 0, 0, (0, 0, nI 12, fun _ => 0, fun _ => 0, fun _ => 0, fun _ => 0, fun _ => 0), fun _ => 0, 0, 0, fun _ _ => 0, fun _ => none, (0, fun _ => 0, fun _ => 0, fun _ => 0), 0)
theorem iv_0 {b j : Nat} (h : (lk b).1 ≠ 2) (h2 : b ≠ 150) : iv b j = 0 := by
  unfold iv
  rw [if_neg]
  rintro (q | q)
  · exact h q.1
  · exact h2 q.1
theorem iv_j {b j : Nat} (h : j ≠ 2) (h2 : j ≠ 6) : iv b j = 0 := by
  unfold iv
  rw [if_neg]
  rintro (q | q)
  · exact h q.2
  · exact h2 q.2
theorem rt_ir {a k b : Nat} (h : rtab a k = some b) : ir a k = some b := by
  unfold ir
  rw [if_neg, if_neg, if_neg]
  · exact h
  · rintro ⟨rfl, rfl⟩
    have e : rtab 131 3 = none := rfl
    rw [e] at h; cases h
  · rintro ⟨rfl, rfl⟩
    have e : rtab 131 2 = none := rfl
    rw [e] at h; cases h
  · rintro ⟨rfl, _⟩
    have e : rtab 32 k = none := rfl
    rw [e] at h; cases h
theorem start_ST {M : Mm} (h : ∀ b, b < 168 → ∀ j, M.1 b j = iv b j ∧ M.2.1 b j = 0 ∧ ∀ c, ir b j = some c → M.2.2 b j = some c) : ST 0 s00 M := by
  have z : ∀ b, b < 168 → ∀ j, (lk b).1 ≠ 2 → b ≠ 150 → M.1 b j = 0 := fun b hb j h1 h2 => (h b hb j).1.trans (iv_0 h1 h2)
  have y : ∀ b, b < 168 → ∀ j, j ≠ 2 → j ≠ 6 → M.1 b j = 0 := fun b hb j h1 h2 => (h b hb j).1.trans (iv_j h1 h2)
  have hR : RS M := fun a k b q => by
    have ha : a < 168 := by
      refine lk_lt (fun e => ?_)
      unfold rtab at q
      rw [e] at q
      cases q
    exact (h a ha k).2.2 b (rt_ir q)
  have l14 : M.1 14 2 = nI 12 := (h 14 (by decide) 2).1.trans rfl
  have l150 : M.1 150 6 = nI 12 := (h 150 (by decide) 6).1.trans rfl
  refine ⟨⟨hR, ⟨z 0 (by decide) 1 (by decide) (by decide), fun k hk => absurd hk (Nat.not_lt_zero _)⟩, ⟨y 14 (by decide) 0 (by decide) (by decide), y 14 (by decide) 1 (by decide) (by decide), l14, fun m hm => absurd hm (Nat.not_lt_zero _), fun i _ => z 15 (by decide) i (by decide) (by decide), fun d hd => absurd hd (Nat.not_lt_zero _)⟩, ⟨z 19 (by decide) 0 (by decide) (by decide), z 19 (by decide) 1 (by decide) (by decide), fun d hd => absurd hd (Nat.not_lt_zero _), fun m hm => absurd hm (Nat.not_lt_zero _)⟩, ⟨by decide, z 31 (by decide) 0 (by decide) (by decide), fun i => i, fun i hi => hi, fun i j _ _ q => q, fun i hi => (h 32 (by decide) i).2.2 _ (if_pos ⟨rfl, hi⟩), fun i hi => absurd hi (Nat.not_lt_zero _)⟩, ⟨⟨0, by decide, z 117 (by decide) 1 (by decide) (by decide), fun k hk => ⟨fun q => (by rw [Nat.zero_testBit] at q; cases q), fun ⟨P, q⟩ => (by cases q)⟩⟩, fun k hk P hP => (by cases hP)⟩, ⟨z 144 (by decide) 0 (by decide) (by decide), fun i hi => absurd hi (Nat.not_lt_zero _)⟩, ⟨142, 143, (h 131 (by decide) 2).2.2 _ rfl, (h 131 (by decide) 3).2.2 _ rfl, Or.inl ⟨rfl, rfl⟩⟩, (h 0 (by decide) 10).2.1⟩, ⟨hR, ⟨(h 150 (by decide) 2).1.trans rfl, fun k hk => absurd hk (Nat.not_lt_zero _)⟩, ⟨y 150 (by decide) 4 (by decide) (by decide), y 150 (by decide) 5 (by decide) (by decide), l150, fun i _ => z 152 (by decide) i (by decide) (by decide), fun d hd => absurd hd (Nat.not_lt_zero _), fun m hm => absurd hm (Nat.not_lt_zero _)⟩, fun j hj => z 158 (by decide) _ (by decide) (by decide), ⟨y 150 (by decide) 19 (by decide) (by decide), fun i hi => absurd hi (Nat.not_lt_zero _)⟩, fun k hk => ⟨z 162 (by decide) k (by decide) (by decide), fun P hP => (by cases hP)⟩, ⟨y 150 (by decide) 22 (by decide) (by decide), fun i hi => absurd hi (Nat.not_lt_zero _)⟩, (h 150 (by decide) 26).2.1⟩, ⟨Nat.zero_le _, fun k hk => absurd hk (Nat.not_lt_zero _), ⟨by decide, by decide, ⟨12, by decide, rfl⟩, fun i _ => ⟨0, by decide, rfl⟩, fun d hd => absurd hd (Nat.not_lt_zero _), fun m hm => absurd hm (Nat.not_lt_zero _)⟩, ⟨rfl, fun d hd => absurd hd (Nat.not_lt_zero _), fun m hm => absurd hm (Nat.not_lt_zero _), fun d _ _ => ⟨rfl, rfl⟩, fun m _ _ => ⟨rfl, rfl, rfl⟩⟩, Nat.le_refl _, by decide, fun i hi => absurd hi (Nat.not_lt_zero _), fun k hk P hP => (by cases hP), ⟨by decide, fun i hi => absurd hi (Nat.not_lt_zero _)⟩⟩, fun d hd => absurd hd (Nat.not_lt_zero _), ⟨fun d _ => z 10 (by decide) d (by decide) (by decide), fun m _ => z 13 (by decide) m (by decide) (by decide), z 8 (by decide) 0 (by decide) (by decide), z 8 (by decide) 1 (by decide) (by decide)⟩⟩
