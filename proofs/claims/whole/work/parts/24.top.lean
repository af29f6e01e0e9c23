/-! the whole state of a HoundLicence -/
abbrev Sv : Type := Pg × Nat × Lw × Pg × Nat × Nat × (Nat → Pg) × (Nat → Option Pg) × Sg × Int64
abbrev Sv.T (s : Sv) : Pg := s.1
abbrev Sv.n (s : Sv) : Nat := s.2.1
abbrev Sv.Λ (s : Sv) : Lw := s.2.2.1
abbrev Sv.P (s : Sv) : Pg := s.2.2.2.1
abbrev Sv.h (s : Sv) : Nat := s.2.2.2.2.1
abbrev Sv.c (s : Sv) : Nat := s.2.2.2.2.2.1
abbrev Sv.A (s : Sv) : Nat → Pg := s.2.2.2.2.2.2.1
abbrev Sv.S (s : Sv) : Nat → Option Pg := s.2.2.2.2.2.2.2.1
abbrev Sv.σ (s : Sv) : Sg := s.2.2.2.2.2.2.2.2.1
abbrev Sv.e (s : Sv) : Int64 := s.2.2.2.2.2.2.2.2.2
abbrev Sv.txt (s : Sv) (n : Nat) (T : Pg) : Sv := (T, n, s.Λ, s.P, s.h, s.c, s.A, s.S, s.σ, s.e)
abbrev Sv.town (s : Sv) (P : Pg) (h : Nat) : Sv := (s.T, s.n, s.Λ, P, h, s.c, s.A, s.S, s.σ, s.e)
abbrev Sv.acts (s : Sv) (c : Nat) (A : Nat → Pg) : Sv := (s.T, s.n, s.Λ, s.P, s.h, c, A, s.S, s.σ, s.e)
abbrev Sv.slots (s : Sv) (S : Nat → Option Pg) : Sv := (s.T, s.n, s.Λ, s.P, s.h, s.c, s.A, S, s.σ, s.e)
abbrev Sv.seen (s : Sv) (σ : Sg) : Sv := (s.T, s.n, s.Λ, s.P, s.h, s.c, s.A, s.S, σ, s.e)
abbrev Sv.sd (s : Sv) (e : Int64) : Sv := (s.T, s.n, s.Λ, s.P, s.h, s.c, s.A, s.S, s.σ, e)
def XTx (M : Mm) (n : Nat) (T : Pg) : Prop := M.1 0 1 = nI n ∧ ∀ k, k < n → M.1 1 k = T k
def XI (M : Mm) (s : Sv) : Prop := RS M ∧ XTx M s.n s.T ∧ XL M 14 s.Λ ∧ XT M 19 s.Λ s.P ∧ XA M s.Λ s.c s.A ∧ XK M s.Λ s.S ∧ XS M s.σ ∧ (∃ re rn, XH M re rn) ∧ M.2.1 0 10 = s.e
theorem XI.r {M : Mm} {s : Sv} (H : XI M s) : RS M := H.1
theorem XI.t {M : Mm} {s : Sv} (H : XI M s) : XTx M s.n s.T := H.2.1
theorem XI.l {M : Mm} {s : Sv} (H : XI M s) : XL M 14 s.Λ := H.2.2.1
theorem XI.p {M : Mm} {s : Sv} (H : XI M s) : XT M 19 s.Λ s.P := H.2.2.2.1
theorem XI.a {M : Mm} {s : Sv} (H : XI M s) : XA M s.Λ s.c s.A := H.2.2.2.2.1
theorem XI.k {M : Mm} {s : Sv} (H : XI M s) : XK M s.Λ s.S := H.2.2.2.2.2.1
theorem XI.s {M : Mm} {s : Sv} (H : XI M s) : XS M s.σ := H.2.2.2.2.2.2.1
theorem XI.h {M : Mm} {s : Sv} (H : XI M s) : ∃ re rn, XH M re rn := H.2.2.2.2.2.2.2.1
theorem XI.e {M : Mm} {s : Sv} (H : XI M s) : M.2.1 0 10 = s.e := H.2.2.2.2.2.2.2.2
/-- what holds of a state after so many calls at most -/
def OkV (B : Nat) (s : Sv) : Prop := s.n ≤ 60 ∧ (∀ k, k < s.n → ∃ b, b ≤ 255 ∧ s.T k = nI b) ∧ OkL s.Λ ∧ OkP s.Λ s.P s.h ∧ s.h ≤ B ∧ s.c ≤ 14 ∧ (∀ i, i < s.c → ∃ h, h ≤ B ∧ OkP s.Λ (s.A i) h) ∧ (∀ k, k < 2 → ∀ P, s.S k = some P → ∃ h, h ≤ B ∧ OkP s.Λ P h) ∧ OkS s.σ
theorem OkV.n {B : Nat} {s : Sv} (H : OkV B s) : s.n ≤ 60 := H.1
theorem OkV.t {B : Nat} {s : Sv} (H : OkV B s) : ∀ k, k < s.n → ∃ b, b ≤ 255 ∧ s.T k = nI b := H.2.1
theorem OkV.l {B : Nat} {s : Sv} (H : OkV B s) : OkL s.Λ := H.2.2.1
theorem OkV.p {B : Nat} {s : Sv} (H : OkV B s) : OkP s.Λ s.P s.h := H.2.2.2.1
theorem OkV.h {B : Nat} {s : Sv} (H : OkV B s) : s.h ≤ B := H.2.2.2.2.1
theorem OkV.c {B : Nat} {s : Sv} (H : OkV B s) : s.c ≤ 14 := H.2.2.2.2.2.1
theorem OkV.a {B : Nat} {s : Sv} (H : OkV B s) : ∀ i, i < s.c → ∃ h, h ≤ B ∧ OkP s.Λ (s.A i) h := H.2.2.2.2.2.2.1
theorem OkV.k {B : Nat} {s : Sv} (H : OkV B s) : ∀ k, k < 2 → ∀ P, s.S k = some P → ∃ h, h ≤ B ∧ OkP s.Λ P h := H.2.2.2.2.2.2.2.1
theorem OkV.s {B : Nat} {s : Sv} (H : OkV B s) : OkS s.σ := H.2.2.2.2.2.2.2.2
/-- what a call of the class leaves of the reference -/
def Fr (M M' : Mm) : Prop := ∀ a, (a = 8 ∨ a = 10 ∨ a = 13 ∨ 150 ≤ a) → ∀ k, M'.1 a k = M.1 a k ∧ M'.2.1 a k = M.2.1 a k
theorem Fr.rf {M : Mm} : Fr M M := fun _ _ _ => ⟨rfl, rfl⟩
theorem Fr.tr {M M1 M2 : Mm} (h1 : Fr M M1) (h2 : Fr M1 M2) : Fr M M2 := fun a ha k => ⟨(h2 a ha k).1.trans (h1 a ha k).1, (h2 a ha k).2.trans (h1 a ha k).2⟩
theorem Sm.fr {lo hi : Nat} {M M' : Mm} (h : Sm lo hi M M') (hh : hi ≤ 150 ∧ (hi ≤ 8 ∨ 14 ≤ lo)) : Fr M M' := fun a ha k => ⟨h.2 a (by omega) k, by rw [h.1]⟩
theorem Si.fr {lo hi : Nat} {M M' : Mm} (h : Si lo hi M M') (hl : M'.2.1 = M.2.1) (hh : hi ≤ 150 ∧ (hi ≤ 8 ∨ 14 ≤ lo)) : Fr M M' := fun a ha k => ⟨h a (by omega) k, by rw [hl]⟩
theorem Sm.si {lo hi : Nat} {M M' : Mm} (h : Sm lo hi M M') : Si lo hi M M' := h.2
theorem XTx.si {M M' : Mm} {lo hi n : Nat} {T : Pg} (h : XTx M n T) (s : Si lo hi M M') (ho : 2 ≤ lo) : XTx M' n T := by
  refine ⟨(s 0 (by omega) 1).trans h.1, fun k hk => ?_⟩
  rw [s 1 (by omega) k]
  exact h.2 k hk
theorem XA.si {M M' : Mm} {Λ : Lw} {c : Nat} {A : Nat → Pg} {lo hi : Nat} (h : XA M Λ c A) (s : Si lo hi M M') (hr : ∀ k, M'.2.2 32 k = M.2.2 32 k) (ho : 117 ≤ lo ∨ hi ≤ 31) : XA M' Λ c A := by
  obtain ⟨h1, h2, π, h3, h4, h5, h6⟩ := h
  refine ⟨h1, (s 31 (by omega) 0).trans h2, π, h3, h4, fun i hi => (hr i).trans (h5 i hi), fun i hi => (h6 i hi).si s ?_⟩
  have := h3 i (by omega)
  omega
theorem XK.si {M M' : Mm} {Λ : Lw} {S : Nat → Option Pg} {lo hi : Nat} (h : XK M Λ S) (s : Si lo hi M M') (ho : 131 ≤ lo ∨ hi ≤ 117) : XK M' Λ S := by
  obtain ⟨⟨f, h1, h2, h3⟩, h4⟩ := h
  exact ⟨⟨f, h1, (s 117 (by omega) 1).trans h2, h3⟩, fun k hk P hP => (h4 k hk P hP).si s (by omega)⟩
theorem XH.ra {M M' : Mm} {re rn : Nat} (h : XH M re rn) (s : Ra M M') : XH M' re rn := by
  unfold XH
  rw [s.2 131 2 (by decide), s.2 131 3 (by decide)]
  exact h
theorem XI.scr {M M' : Mm} {s : Sv} {lo hi : Nat} (H : XI M s) (q : Sm lo hi M M') (ho : (2 ≤ lo ∧ hi ≤ 14) ∨ (25 ≤ lo ∧ hi ≤ 31) ∨ (131 ≤ lo ∧ hi ≤ 144) ∨ 148 ≤ lo) : XI M' s := by
  refine ⟨q.rs H.r, H.t.si q.si (by omega), H.l.sm q (by omega), H.p.sm q (by omega), H.a.si q.si (by rw [q.1]; simp) (by omega), H.k.si q.si (by omega), H.s.si q.si (by omega), ?_, by rw [q.1]; exact H.e⟩
  obtain ⟨re, rn, h⟩ := H.h
  exact ⟨re, rn, h.sm q⟩
theorem XI.town {M M' : Mm} {s : Sv} {P : Pg} (h : Nat) (H : XI M s) (q : Sm 19 25 M M') (hp : XT M' 19 s.Λ P) : XI M' (s.town P h) := by
  refine ⟨q.rs H.r, H.t.si q.si (by omega), H.l.sm q (by omega), hp, H.a.si q.si (by rw [q.1]; simp) (by omega), H.k.si q.si (by omega), H.s.si q.si (by omega), ?_, by rw [q.1]; exact H.e⟩
  obtain ⟨re, rn, h⟩ := H.h
  exact ⟨re, rn, h.sm q⟩
theorem XI.acts {M M' : Mm} {s : Sv} {c : Nat} {A : Nat → Pg} (H : XI M s) (q : Si 31 117 M M') (r : Ra M M') (ha : XA M' s.Λ c A) : XI M' (s.acts c A) := by
  refine ⟨r.rs H.r, H.t.si q (by omega), H.l.si q (by omega), H.p.si q (by omega), ha, H.k.si q (by omega), H.s.si q (by omega), ?_, by rw [r.1]; exact H.e⟩
  obtain ⟨re, rn, h⟩ := H.h
  exact ⟨re, rn, h.ra r⟩
theorem XI.slots {M M' : Mm} {s : Sv} {S : Nat → Option Pg} (H : XI M s) (q : Sm 117 131 M M') (hk : XK M' s.Λ S) : XI M' (s.slots S) := by
  refine ⟨q.rs H.r, H.t.si q.si (by omega), H.l.sm q (by omega), H.p.sm q (by omega), H.a.si q.si (by rw [q.1]; simp) (by omega), hk, H.s.si q.si (by omega), ?_, by rw [q.1]; exact H.e⟩
  obtain ⟨re, rn, h⟩ := H.h
  exact ⟨re, rn, h.sm q⟩
theorem XI.sights {M M' : Mm} {s : Sv} {σ : Sg} (H : XI M s) (q : Sm 144 148 M M') (hs : XS M' σ) : XI M' (s.seen σ) := by
  refine ⟨q.rs H.r, H.t.si q.si (by omega), H.l.sm q (by omega), H.p.sm q (by omega), H.a.si q.si (by rw [q.1]; simp) (by omega), H.k.si q.si (by omega), hs, ?_, by rw [q.1]; exact H.e⟩
  obtain ⟨re, rn, h⟩ := H.h
  exact ⟨re, rn, h.sm q⟩
theorem XI.few {M M' : Mm} {s : Sv} (H : XI M s) (q : Si 142 144 M M') (r : Rh M M') (hh : ∃ re rn, XH M' re rn) : XI M' s :=
  ⟨r.rs H.r, H.t.si q (by omega), H.l.si q (by omega), H.p.si q (by omega), H.a.si q (fun k => r.2 32 k (fun e => absurd e (by decide))) (by omega), H.k.si q (by omega), H.s.si q (by omega), hh, by rw [r.1]; exact H.e⟩
theorem XI.txt {M M' : Mm} {s : Sv} {n : Nat} {T : Pg} (H : XI M s) (q : Sm 0 2 M M') (ht : XTx M' n T) : XI M' (s.txt n T) := by
  refine ⟨q.rs H.r, ht, H.l.sm q (by omega), H.p.sm q (by omega), H.a.si q.si (by rw [q.1]; simp) (by omega), H.k.si q.si (by omega), H.s.si q.si (by omega), ?_, by rw [q.1]; exact H.e⟩
  obtain ⟨re, rn, h⟩ := H.h
  exact ⟨re, rn, h.sm q⟩
theorem XI.sd {M : Mm} {s : Sv} (H : XI M s) (x : Int64) : XI (wJ M 0 10 x) (s.sd x) := by
  refine ⟨fun a k b q => H.r a k b q, H.t, H.l, H.p, H.a, H.k, H.s, H.h, ?_⟩
  show (wJ M 0 10 x).2.1 0 10 = x
  simp [wJ]
theorem Fr.sd {M : Mm} {x : Int64} : Fr M (wJ M 0 10 x) := fun a ha k => ⟨rfl, by simp [wJ, show a ≠ 0 by omega]⟩
def oWrite (s : Sv) (x : Int32) : Int32 × Sv := if x < 0 ∨ nI 255 < x then (-2, s) else if 60 ≤ s.n then (-4, s) else (nI (s.n + 1), s.txt (s.n + 1) (upd s.T s.n x))
theorem c_write {l : Launch} {K : CtxT} {M : Mm} {s : Sv} {B : Nat} (H : XI M s) (V : OkV B s) (hB : B ≤ 9999) {x : Int32} : Ci l K 0 mX8_write [.ref (K.1 + 0), .int x] M (fun r M' => r = (oWrite s x).1 ∧ XI M' (oWrite s x).2 ∧ Fr M M') := by
  refine ci_of (L := [some (.ref (K.1 + 0)), some (.int x)]) (by decide +kernel) (Nat.le_of_ble_eq_true rfl) rfl rfl (fun E => ?_)
  refine wp_iload_n (pc := 0) dX8_write_0 rfl ?_
  refine wp_if_lt (pc := 1) 11 dX8_write_1 (by decide) (fun h1 => ?_) (fun h1 => ?_)
  · have e : x < 0 ∨ nI 255 < x := Or.inl h1
    refine wp_bipush (pc := 11) (x := (-2)) dX8_write_11 bp_m2 ?_
    refine wf_iret (pc := 13) dX8_write_13 rfl ?_
    rw [show oWrite s x = (-2, s) from by unfold oWrite; rw [if_pos e]]
    exact ⟨rfl, H, Fr.rf⟩
  · refine wp_iload_n (pc := 4) dX8_write_4 rfl ?_
    refine wp_sipush (pc := 5) (x := nI 255) dX8_write_5 sp_255 ?_
    refine wp_icmp_le (pc := 8) 14 dX8_write_8 (by decide) (fun h8 => ?_) (fun h8 => ?_)
    · have e : ¬ (x < 0 ∨ nI 255 < x) := by rintro (q | q); exact h1 q; exact absurd h8 (Int32.not_le.mpr q)
      refine wp_aload_n (pc := 14) dX8_write_14 rfl ?_
      refine wf_getI (pc := 15) dX8_write_15 fl_X8_13 lk_0 ?_
      rw [H.t.1]
      refine wp_bipush (pc := 18) (x := nI 60) dX8_write_18 bp_60 ?_
      refine wp_icmp_lt (pc := 20) 26 dX8_write_20 (by decide) (fun h20 => ?_) (fun h20 => ?_)
      · have e2 : ¬ 60 ≤ s.n := fun q => nI_nlt q (by have := V.n; omega) h20
        refine wp_aload_n (pc := 26) dX8_write_26 rfl ?_
        refine wf_getR (pc := 27) dX8_write_27 fl_X8_9 lk_0 (H.r 0 0 1 rfl) ?_
        refine wp_aload_n (pc := 30) dX8_write_30 rfl ?_
        refine wf_getI (pc := 31) dX8_write_31 fl_X8_13 lk_0 ?_
        refine wp_iload_n (pc := 34) dX8_write_34 rfl ?_
        have hn := V.n
        have q35 : Sm 0 2 M (wI M 1 s.n x) := Sm.w (by omega) (by omega)
        refine wf_iast (pc := 35) (j := s.n) dX8_write_35 lk_1 H.t.1 (by omega) ?_
        refine wp_aload_n (pc := 36) dX8_write_36 rfl ?_
        refine wp_dup (pc := 37) dX8_write_37 rfl ?_
        refine wf_getI (pc := 38) dX8_write_38 fl_X8_13 lk_0 ?_
        rw [show (wI M 1 s.n x).1 0 1 = nI s.n from H.t.1]
        refine wp_ic (pc := 41) (x := nI 1) dX8_write_41 ic_1 ?_
        refine wp_iadd (pc := 42) dX8_write_42 ?_
        refine wp_top (nI (s.n + 1)) (nI_1 _) ?_
        refine wf_putI (pc := 43) dX8_write_43 fl_X8_13 lk_0 ?_
        refine wp_aload_n (pc := 46) dX8_write_46 rfl ?_
        refine wf_getI (pc := 47) dX8_write_47 fl_X8_13 lk_0 ?_
        refine wp_top (nI (s.n + 1)) (wI_at _ _ _ _) ?_
        refine wf_iret (pc := 50) dX8_write_50 rfl ?_
        rw [show oWrite s x = (nI (s.n + 1), s.txt (s.n + 1) (upd s.T s.n x)) from by unfold oWrite; rw [if_neg e, if_neg e2]]
        have q50 : Sm 0 2 M (wI (wI M 1 s.n x) 0 1 (nI (s.n + 1))) := q35.tr (Sm.w (by omega) (by omega))
        refine ⟨rfl, H.txt q50 ⟨wI_at _ _ _ _, fun k hk => ?_⟩, q50.fr (by decide)⟩
        by_cases ek : k = s.n
        · subst ek; simp [upd, wI]
        · simp only [upd, if_neg ek]
          have : (wI (wI M 1 s.n x) 0 1 (nI (s.n + 1))).1 1 k = M.1 1 k := by simp [wI, ek]
          rw [this]
          exact H.t.2 k (by omega)
      · have e2 : 60 ≤ s.n := by rcases Nat.lt_or_ge s.n 60 with q | q; exact absurd (nI_lt q (by omega)) h20; exact q
        refine wp_bipush (pc := 23) (x := (-4)) dX8_write_23 bp_m4 ?_
        refine wf_iret (pc := 25) dX8_write_25 rfl ?_
        rw [show oWrite s x = (-4, s) from by unfold oWrite; rw [if_neg e, if_pos e2]]
        exact ⟨rfl, H, Fr.rf⟩
    · have e : x < 0 ∨ nI 255 < x := Or.inr (Int32.not_le.mp h8)
      refine wp_bipush (pc := 11) (x := (-2)) dX8_write_11 bp_m2 ?_
      refine wf_iret (pc := 13) dX8_write_13 rfl ?_
      rw [show oWrite s x = (-2, s) from by unfold oWrite; rw [if_pos e]]
      exact ⟨rfl, H, Fr.rf⟩
