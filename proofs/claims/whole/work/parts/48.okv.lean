/-! what holds of a state goes on holding -/
theorem OkV.up {B B' : Nat} {s : Sv} (V : OkV B s) (h : B ≤ B') : OkV B' s := by
  refine ⟨V.n, V.t, V.l, V.p, Nat.le_trans V.h h, V.c, fun i hi => ?_, fun k hk P hP => ?_, V.s⟩
  · obtain ⟨x, h1, h2⟩ := V.a i hi
    exact ⟨x, Nat.le_trans h1 h, h2⟩
  · obtain ⟨x, h1, h2⟩ := V.k k hk P hP
    exact ⟨x, Nat.le_trans h1 h, h2⟩
theorem OkV.rem {B : Nat} {s : Sv} (V : OkV B s) : OkV B (sRem s) := by
  have hc := V.c
  refine ⟨V.n, V.t, V.l, V.p, V.h, ?_, fun i hi => ?_, V.k, V.s⟩
  · show nAc s.c ≤ 14
    unfold nAc
    split <;> omega
  · have hi : i < nAc s.c := hi
    show ∃ h, h ≤ B ∧ OkP s.Λ (nA s.c s.A s.P i) h
    unfold nAc at hi
    unfold nA
    by_cases e : s.c = 14
    · rw [if_pos e] at hi ⊢
      by_cases e2 : i < 13
      · rw [if_pos e2]; exact V.a (i + 1) (by omega)
      · rw [if_neg e2]; exact ⟨s.h, V.h, V.p⟩
    · rw [if_neg e] at hi ⊢
      by_cases e2 : i = s.c
      · rw [if_pos e2]; exact ⟨s.h, V.h, V.p⟩
      · rw [if_neg e2]; exact V.a i (by omega)
theorem OkV.tw {B : Nat} {s : Sv} {P : Pg} {h : Nat} (V : OkV B s) (hp : OkP s.Λ P h) (hh : h ≤ B) : OkV B (s.town P h) := ⟨V.n, V.t, V.l, hp, hh, V.c, V.a, V.k, V.s⟩
theorem OkP.cg {Λ : Lw} {P Q : Pg} {h : Nat} (H : OkP Λ P h) (hL : OkN Λ) (e : ∀ j, j ≠ 18 → Q j = P j) : OkP Λ Q h := by
  obtain ⟨h1, h2, h3, h4, h5⟩ := H
  have hD := hL.1
  have hM := hL.2.1
  refine ⟨(e 24 (by decide)).trans h1, fun d hd => by rw [e d (by omega)]; exact h2 d hd, fun m hm => ?_, fun d h6 h7 => by rw [e d (by omega), e (4 + d) (by omega)]; exact h4 d h6 h7, fun m h6 h7 => by rw [e (8 + m) (by omega), e (13 + m) (by omega), e (19 + m) (by omega)]; exact h5 m h6 h7⟩
  rw [e (8 + m) (by omega), e (13 + m) (by omega), e (19 + m) (by omega)]
  obtain ⟨g1, g2, g3, g4⟩ := h3 m hm
  exact ⟨g1, g2, g3, fun d hd => by rw [e d (by omega)]; exact g4 d hd⟩
theorem OkP.give {Λ : Lw} {P : Pg} {h m0 d0 : Nat} (H : OkP Λ P h) (hL : OkN Λ) (hm : m0 < lM Λ) (hd : d0 < lD Λ) (hs : P (13 + m0) = P d0) : OkP Λ (upd P (8 + m0) (nI d0)) h := by
  obtain ⟨h1, h2, h3, h4, h5⟩ := H
  have hD := hL.1
  have hM := hL.2.1
  have e : ∀ j, j ≠ 8 + m0 → upd P (8 + m0) (nI d0) j = P j := fun j hj => by simp [upd, hj]
  have e0 : upd P (8 + m0) (nI d0) (8 + m0) = nI d0 := by simp [upd]
  refine ⟨(e 24 (by omega)).trans h1, fun d hd => by rw [e d (by omega)]; exact h2 d hd, fun m hm => ?_, fun d h6 h7 => by rw [e d (by omega), e (4 + d) (by omega)]; exact h4 d h6 h7, fun m h6 h7 => by rw [e (8 + m) (by omega), e (13 + m) (by omega), e (19 + m) (by omega)]; exact h5 m h6 h7⟩
  obtain ⟨g1, g2, g3, g4⟩ := h3 m hm
  rw [e (13 + m) (by omega), e (19 + m) (by omega)]
  by_cases q : m = m0
  · subst q
    rw [e0]
    refine ⟨Or.inr ⟨d0, hd, rfl⟩, g2, g3, fun d hd2 w _ => ?_⟩
    have : d0 = d := (nI_eq (by omega) (by omega)).mp w
    subst this
    rw [e d0 (by omega)]
    exact hs
  · rw [e (8 + m) (by omega)]
    exact ⟨g1, g2, g3, fun d hd => by rw [e d (by omega)]; exact g4 d hd⟩
theorem OkV.write {B : Nat} {s : Sv} (V : OkV B s) (x : Int32) : OkV B (oWrite s x).2 := by
  unfold oWrite
  split
  · exact V
  · rename_i h1
    split
    · exact V
    · rename_i h2
      refine ⟨show s.n + 1 ≤ 60 by omega, fun k hk => ?_, V.l, V.p, V.h, V.c, V.a, V.k, V.s⟩
      have hk : k < s.n + 1 := hk
      show ∃ b, b ≤ 255 ∧ upd s.T s.n x k = nI b
      by_cases e : k = s.n
      · subst e
        obtain ⟨j, hj, ej⟩ := nI_of (x := x) (fun q => h1 (Or.inl q))
        refine ⟨j, ?_, by simp [upd, ej]⟩
        rcases Nat.lt_or_ge 255 j with q | q
        · exact absurd (Or.inr (by rw [ej]; exact nI_lt q hj)) h1
        · exact q
      · simp only [upd, if_neg e]; exact V.t k (by omega)
theorem OkV.wipe {B : Nat} {s : Sv} (V : OkV B s) : OkV B (s.txt 0 s.T) := ⟨Nat.zero_le _, fun k hk => absurd hk (Nat.not_lt_zero _), V.l, V.p, V.h, V.c, V.a, V.k, V.s⟩
theorem in_cl {y : Int32} {n : Nat} (h : inD y n = true) (hn : n < 2 ^ 31) : y.toNatClampNeg < n := by
  obtain ⟨j, hj, rfl⟩ := inD_of h hn
  rw [nI_cl (by omega)]; exact hj
theorem OkV.lead {B : Nat} {s : Sv} (V : OkV B s) (y x : Int32) : OkV B (oLead s y x).2 := by
  have hD := V.l.1
  unfold oLead
  split
  · rename_i h
    have := in_cl h (by omega)
    split
    · exact V.rem.tw (V.p.go V.l.N this) V.h
    · split
      · exact V.rem.tw (V.p.go V.l.N this) V.h
      · exact V
  · exact V
theorem OkV.leash {B : Nat} {s : Sv} (V : OkV B s) (y : Int32) : OkV B (oLeash s y).2 := by
  unfold oLeash oLeashN
  split
  · split
    · exact V
    · exact V.rem.tw (V.p.cg V.l.N (fun j hj => by simp [upd, hj])) V.h
  · exact V
theorem OkV.give {B : Nat} {s : Sv} (V : OkV B s) (y x : Int32) : OkV B (oGive s y x).2 := by
  have hD := V.l.1
  have hM := V.l.2.1
  unfold oGive oGiveN
  split
  · rename_i h
    have g1 := in_cl h.1 (by omega)
    have g2 := in_cl h.2 (by omega)
    split
    · exact V
    · rename_i h2
      split
      · refine V.rem.tw (V.p.give V.l.N g1 g2 ?_) V.h
        exact Classical.not_not.mp (fun q => h2 (Or.inr (Or.inr q)))
      · exact V
  · exact V
theorem OkV.hour {B : Nat} {s : Sv} (V : OkV B s) : OkV (B + 1) (oHour s).2 :=
  (V.rem.up (Nat.le_succ B)).tw (V.p.hour V.l.N 0 _) (Nat.succ_le_succ V.h)
theorem OkV.undo {B : Nat} {s : Sv} (V : OkV B s) (hB : B ≤ 9999) : OkV B (oUndo s).2 := by
  have hc := V.c
  unfold oUndo
  split
  · exact V
  · obtain ⟨h, h1, h2⟩ := V.a (s.c - 1) (by omega)
    refine ⟨V.n, V.t, V.l, ?_, ?_, show s.c - 1 ≤ 14 by omega, fun i hi => V.a i (by have hi : i < s.c - 1 := hi; omega), V.k, V.s⟩
    · show OkP s.Λ (s.A (s.c - 1)) (hr (s.A (s.c - 1)))
      rw [h2.hr (by omega)]; exact h2
    · show hr (s.A (s.c - 1)) ≤ B
      rw [h2.hr (by omega)]; exact h1
theorem OkV.keep {B : Nat} {s : Sv} (V : OkV B s) (x : Int32) : OkV B (oKeep s x).2 := by
  unfold oKeep
  split
  · refine ⟨V.n, V.t, V.l, V.p, V.h, V.c, V.a, fun k hk P hP => ?_, V.s⟩
    have hP : putS s.S x.toNatClampNeg s.P k = some P := hP
    unfold putS at hP
    split at hP
    · cases hP; exact ⟨s.h, V.h, V.p⟩
    · exact V.k k hk P hP
  · exact V
theorem OkV.again {B : Nat} {s : Sv} (V : OkV B s) (hB : B ≤ 9999) (x : Int32) : OkV B (oAgain s x).2 := by
  unfold oAgain
  split
  · rename_i hx
    have hk := in_cl hx (by decide)
    cases e : s.S x.toNatClampNeg with
    | none => exact V
    | some P =>
      obtain ⟨h, h1, h2⟩ := V.k _ hk P e
      refine ⟨V.n, V.t, V.l, ?_, ?_, Nat.zero_le _, fun i hi => absurd hi (Nat.not_lt_zero _), V.k, V.s⟩
      · show OkP s.Λ P (hr P)
        rw [h2.hr (by omega)]; exact h2
      · show hr P ≤ B
        rw [h2.hr (by omega)]; exact h1
  · exact V
theorem OkV.see {B : Nat} {s : Sv} (V : OkV B s) (y x t : Int32) : OkV B (oSee s y x t).2 := by
  have hM := V.l.2.1
  unfold oSee
  split
  · rename_i h
    have g1 := in_cl h (by omega)
    split
    · rename_i h2
      have g2 := in_cl h2.1 (by decide)
      have g3 := in_cl h2.2 (by decide)
      split
      · exact V
      · refine ⟨V.n, V.t, V.l, V.p, V.h, V.c, V.a, V.k, ⟨show s.σ.1 + 1 ≤ 6 by omega, fun i hi => ?_⟩⟩
        have hi : i < s.σ.1 + 1 := hi
        show (if i = s.σ.1 then y.toNatClampNeg else s.σ.2.1 i) < 5 ∧ (if i = s.σ.1 then x.toNatClampNeg else s.σ.2.2.1 i) < 5 ∧ (if i = s.σ.1 then t.toNatClampNeg else s.σ.2.2.2 i) < 12
        by_cases e : i = s.σ.1
        · rw [if_pos e, if_pos e, if_pos e]; exact ⟨by omega, g2, g3⟩
        · rw [if_neg e, if_neg e, if_neg e]; exact V.s.2 i (by omega)
    · exact V
  · exact V
theorem OkV.unsee {B : Nat} {s : Sv} (V : OkV B s) : OkV B (s.seen (0, s.σ.2)) := ⟨V.n, V.t, V.l, V.p, V.h, V.c, V.a, V.k, ⟨Nat.zero_le _, fun i hi => absurd hi (Nat.not_lt_zero _)⟩⟩
theorem OkV.sd {B : Nat} {s : Sv} (V : OkV B s) (x : Int64) : OkV B (s.sd x) := V
theorem OkV.days {B : Nat} {s : Sv} (V : OkV B s) (x : Int32) : OkV B (oDays s x).2 := by
  unfold oDays
  split
  · exact V.sd _
  · exact V
