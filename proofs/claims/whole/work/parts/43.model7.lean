theorem XM.acts {M M' : Mm} {s : Sv} {c : Nat} {A : Nat → Pg} (H : XM M s) (q2 : M'.2 = M.2) (q0 : ∀ k, k ≠ 19 → M'.1 150 k = M.1 150 k) (q : ∀ a, a ≠ 150 → a ≠ 160 → ∀ k, M'.1 a k = M.1 a k) (h5 : M'.1 150 19 = nI c) (h6 : ∀ i, i < c → MT M' 160 (25 * i) (A i)) : XM M' (s.acts c A) := by
  obtain ⟨h1, ⟨h2, h3⟩, ⟨w1, w2, w3, w4, w5, w6⟩, h4, -, h7, ⟨h8, h9⟩, h10⟩ := H
  refine ⟨h1.of (by rw [q2]), ⟨(q0 _ (by simp)).trans h2, fun k hk => (q _ (by simp) (by simp) _).trans (h3 k hk)⟩, ⟨(q0 _ (by simp)).trans w1, (q0 _ (by simp)).trans w2, (q0 _ (by simp)).trans w3, fun i hi => (q _ (by simp) (by simp) _).trans (w4 i hi), fun d hd => ?_, fun m hm => (q _ (by simp) (by simp) _).trans (w6 m hm)⟩, fun j hj => (q _ (by simp) (by simp) _).trans (h4 j hj), ⟨h5, h6⟩, fun k hk => ⟨(q _ (by simp) (by simp) _).trans (h7 k hk).1, fun P hP j hj => (q _ (by simp) (by simp) _).trans ((h7 k hk).2 P hP j hj)⟩, ⟨(q0 _ (by simp)).trans h8, fun i hi => ?_⟩, by rw [q2]; exact h10⟩
  · rw [q 153 (by simp) (by simp), q 153 (by simp) (by simp), q 153 (by simp) (by simp)]; exact w5 d hd
  · rw [q 163 (by simp) (by simp), q 164 (by simp) (by simp), q 165 (by simp) (by simp)]; exact h9 i hi
theorem XM.page {M M' : Mm} {s : Sv} {P : Pg} (h : Nat) (H : XM M s) (q : Sm 158 159 M M') (hp : MT M' 158 0 P) : XM M' (s.town P h) := by
  obtain ⟨h1, ⟨h2, h3⟩, h4, -, ⟨h5, h6⟩, h7, ⟨h8, h9⟩, h10⟩ := H
  have e : ∀ a, a ≠ 158 → ∀ k, M'.1 a k = M.1 a k := fun a ha k => q.2 a (by omega) k
  refine ⟨q.rs h1, ⟨(e _ (by simp) _).trans h2, fun k hk => (e _ (by simp) _).trans (h3 k hk)⟩, h4.si q.si (by omega), hp, ⟨(e _ (by simp) _).trans h5, fun i hi j hj => (e _ (by simp) _).trans (h6 i hi j hj)⟩, fun k hk => ⟨(e _ (by simp) _).trans (h7 k hk).1, fun P hP j hj => (e _ (by simp) _).trans ((h7 k hk).2 P hP j hj)⟩, ⟨(e _ (by simp) _).trans h8, fun i hi => ?_⟩, by rw [q.1]; exact h10⟩
  rw [e 163 (by simp), e 164 (by simp), e 165 (by simp)]; exact h9 i hi
theorem c_note {l : Launch} {K : CtxT} {M : Mm} {s : Sv} {B : Nat} (H : XM M s) (V : OkV B s) (hB : B ≤ 9999) : Cv l K 0 mX9_note [.ref (K.1 + 150)] M (fun M' => XM M' (sRem s) ∧ Fm M M') := by
  refine cv_of (L := [some (.ref (K.1 + 150)), none]) (by decide +kernel) (Nat.le_of_ble_eq_true rfl) rfl rfl (fun E => ?_)
  have hcc := V.c
  have loop2 : ∀ (c : Nat) (M0 : Mm) (A : Nat → Pg), c ≤ 13 → nAc s.c = c + 1 → (∀ i, i ≤ c → ∀ j, j < 25 → nA s.c s.A s.P i j = if i = c then s.P j else A i j) → M0.2 = M.2 → (∀ k, k ≠ 19 → M0.1 150 k = M.1 150 k) → (∀ a, a ≠ 150 → a ≠ 160 → ∀ k, M0.1 a k = M.1 a k) → M0.1 150 19 = nI c → (∀ i, i < c → MT M0 160 (25 * i) (A i)) → ∀ (n k : Nat) (M1 : Mm), n = 25 - k → k ≤ 25 → Sm 160 161 M0 M1 → (∀ j, j < 25 * c → M1.1 160 j = M0.1 160 j) → (∀ j, j < k → M1.1 160 (25 * c + j) = s.P j) → Wp E K mX9_note 0 (0, 0) 51 [some (.ref (K.1 + 150)), some (.int (nI k))] [] 168 M1 0 0 (zV E K (fun M' => XM M' (sRem s) ∧ Fm M M')) := by
    intro c M0 A hc hn hA e2 e0 e1 h19 hA0 n
    induction n with
    | zero =>
      intro k M1 hn1 hk s1 hlo hd
      refine wp_iload_n (pc := 51) dX9_note_51 rfl ?_
      refine wp_bipush (pc := 52) (x := nI 25) dX9_note_52 bp_25 ?_
      refine wp_icmp_ge (pc := 54) 83 dX9_note_54 (by decide) (fun h54 => ?_) (fun h54 => ?_)
      · have e : k = 25 := by omega
        subst e
        refine wp_aload_n (pc := 83) dX9_note_83 rfl ?_
        refine wp_dup (pc := 84) dX9_note_84 rfl ?_
        refine wf_getI (pc := 85) dX9_note_85 fl_X9_140 lk_150 ?_
        rw [show M1.1 150 19 = nI c from (s1.2 150 (by omega) 19).trans h19]
        refine wp_ic (pc := 88) (x := nI 1) dX9_note_88 ic_1 ?_
        refine wp_iadd (pc := 89) dX9_note_89 ?_
        refine wp_top (nI (c + 1)) (nI_1 _) ?_
        refine wf_putI (pc := 90) dX9_note_90 fl_X9_140 lk_150 ?_
        refine wf_vret (pc := 93) dX9_note_93 rfl ?_
        refine ⟨?_, ?_⟩
        · refine H.acts (s1.1.trans e2) (fun k hk => (wI_nk hk).trans ((s1.2 150 (by omega) k).trans (e0 k hk))) (fun a h1 h2 k => (wI_na h1).trans ((s1.2 a (by omega) k).trans (e1 a h1 h2 k))) (by rw [hn]; exact wI_at _ _ _ _) (fun i hi j hj => ?_)
          rw [hn] at hi
          rw [wI_na (by decide), hA i (by omega) j hj]
          by_cases e : i = c
          · rw [if_pos e, e]; exact hd j hj
          · rw [if_neg e, hlo _ (by omega)]; exact hA0 i (by omega) j hj
        · exact ⟨fun a ha k => ⟨(wI_na (by omega)).trans ((s1.2 a (by omega) k).trans (e1 a (by omega) (by omega) k)), by show M1.2.1 a k = _; rw [s1.1, e2]⟩, by show M1.2.2 = _; rw [s1.1, e2]⟩
      · exact absurd (nI_le (by omega) (by omega)) h54
    | succ n ih =>
      intro k M1 hn1 hk s1 hlo hd
      refine wp_iload_n (pc := 51) dX9_note_51 rfl ?_
      refine wp_bipush (pc := 52) (x := nI 25) dX9_note_52 bp_25 ?_
      refine wp_icmp_ge (pc := 54) 83 dX9_note_54 (by decide) (fun h54 => ?_) (fun h54 => ?_)
      · exact absurd h54 (nI_ge (by omega) (by omega))
      · refine wp_aload_n (pc := 57) dX9_note_57 rfl ?_
        refine wf_getR (pc := 58) dX9_note_58 fl_X9_41 lk_150 (((s1.rs (H.r.of (by rw [e2])))) 150 18 160 rfl) ?_
        refine wp_bipush (pc := 61) (x := nI 25) dX9_note_61 bp_25 ?_
        refine wp_aload_n (pc := 63) dX9_note_63 rfl ?_
        refine wf_getI (pc := 64) dX9_note_64 fl_X9_140 lk_150 ?_
        rw [show M1.1 150 19 = nI c from (s1.2 150 (by omega) 19).trans h19]
        refine wp_imul (pc := 67) dX9_note_67 ?_
        refine wp_iload_n (pc := 68) dX9_note_68 rfl ?_
        refine wp_iadd (pc := 69) dX9_note_69 ?_
        refine wp_aload_n (pc := 70) dX9_note_70 rfl ?_
        refine wf_getR (pc := 71) dX9_note_71 fl_X9_35 lk_150 (((s1.rs (H.r.of (by rw [e2])))) 150 16 158 rfl) ?_
        refine wp_iload_n (pc := 74) dX9_note_74 rfl ?_
        refine wf_iald (pc := 75) (j := k) dX9_note_75 lk_158 rfl (by omega) ?_
        rw [show M1.1 158 k = s.P k from (s1.2 158 (by omega) k).trans ((e1 158 (by omega) (by omega) k).trans (H.p.at (by omega)))]
        refine wf_iast (pc := 76) (j := (25 * c + k)) dX9_note_76 lk_160 (by rw [pk_mul, nI_add]) (by omega) ?_
        refine wp_iinc1 (pc := 77) (L' := [_, _]) dX9_note_77 rfl rfl rfl ?_
        refine wp_goto (pc := 80) 51 dX9_note_80 (by decide) ?_
        refine ih (k + 1) _ (by omega) (by omega) (s1.tr (Sm.w (by omega) (by omega))) (fun j hj => (wI_nk (by omega)).trans (hlo j hj)) (fun j hj => ?_)
        by_cases e : j = k
        · subst e; exact wI_at _ _ _ _
        · exact (wI_nk (by omega)).trans (hd j (by omega))
  have loop1 : s.c = 14 → ∀ (n k : Nat) (M1 : Mm), n = 325 - k → k ≤ 325 → Sm 160 161 M M1 → (∀ j, j < k → M1.1 160 j = M.1 160 (j + 25)) → (∀ j, k ≤ j → M1.1 160 j = M.1 160 j) → Wp E K mX9_note 0 (0, 0) 11 [some (.ref (K.1 + 150)), some (.int (nI k))] [] 168 M1 0 0 (zV E K (fun M' => XM M' (sRem s) ∧ Fm M M')) := by
    intro h14 n
    induction n with
    | zero =>
      intro k M1 hn hk s1 hd hu
      refine wp_iload_n (pc := 11) dX9_note_11 rfl ?_
      refine wp_sipush (pc := 12) (x := nI 325) dX9_note_12 sp_325 ?_
      refine wp_icmp_ge (pc := 15) 39 dX9_note_15 (by decide) (fun h15 => ?_) (fun h15 => ?_)
      · have e : k = 325 := by omega
        subst e
        refine wp_aload_n (pc := 39) dX9_note_39 rfl ?_
        refine wp_dup (pc := 40) dX9_note_40 rfl ?_
        refine wf_getI (pc := 41) dX9_note_41 fl_X9_140 lk_150 ?_
        rw [show M1.1 150 19 = nI 14 from (s1.2 150 (by omega) 19).trans (by rw [← h14]; exact H.a.1)]
        refine wp_ic (pc := 44) (x := nI 1) dX9_note_44 ic_1 ?_
        refine wp_isub (pc := 45) dX9_note_45 ?_
        refine wp_top (nI 13) (pk_sub (a := 14) (b := 1) (by decide)) ?_
        refine wf_putI (pc := 46) dX9_note_46 fl_X9_140 lk_150 ?_
        refine wp_ic (pc := 49) (x := nI 0) dX9_note_49 ic_0 ?_
        refine wp_istore_n (pc := 50) (L' := [_, _]) dX9_note_50 (Nat.le_of_ble_eq_true rfl) rfl rfl ?_
        refine loop2 13 (wI M1 150 19 (nI 13)) (fun i => s.A (i + 1)) (by omega) (by rw [h14]; rfl) (fun i hi j hj => ?_) s1.1 (fun k hk => (wI_nk hk).trans (s1.2 150 (by omega) k)) (fun a h1 h2 k => (wI_na h1).trans (s1.2 a (by omega) k)) (wI_at _ _ _ _) (fun i hi j hj => ?_) 25 0 _ (by omega) (by omega) Sm.rf (fun j hj => rfl) (fun j hj => absurd hj (Nat.not_lt_zero _))
        · unfold nA; rw [if_pos h14]; by_cases e : i = 13; rw [if_neg (by omega), if_pos e]; rw [if_pos (by omega), if_neg e]
        · rw [wI_na (by decide), hd _ (by omega), show 25 * i + j + 25 = 25 * (i + 1) + j by omega]; exact H.a.2 (i + 1) (by omega) j hj
      · exact absurd (nI_le (by omega) (by omega)) h15
    | succ n ih =>
      intro k M1 hn hk s1 hd hu
      refine wp_iload_n (pc := 11) dX9_note_11 rfl ?_
      refine wp_sipush (pc := 12) (x := nI 325) dX9_note_12 sp_325 ?_
      refine wp_icmp_ge (pc := 15) 39 dX9_note_15 (by decide) (fun h15 => ?_) (fun h15 => ?_)
      · exact absurd h15 (nI_ge (by omega) (by omega))
      · refine wp_aload_n (pc := 18) dX9_note_18 rfl ?_
        refine wf_getR (pc := 19) dX9_note_19 fl_X9_41 lk_150 ((s1.rs H.r) 150 18 160 rfl) ?_
        refine wp_iload_n (pc := 22) dX9_note_22 rfl ?_
        refine wp_aload_n (pc := 23) dX9_note_23 rfl ?_
        refine wf_getR (pc := 24) dX9_note_24 fl_X9_41 lk_150 ((s1.rs H.r) 150 18 160 rfl) ?_
        refine wp_iload_n (pc := 27) dX9_note_27 rfl ?_
        refine wp_bipush (pc := 28) (x := nI 25) dX9_note_28 bp_25 ?_
        refine wp_iadd (pc := 30) dX9_note_30 ?_
        refine wf_iald (pc := 31) (j := (k + 25)) dX9_note_31 lk_160 (nI_add _ _) (by omega) ?_
        rw [hu (k + 25) (by omega)]
        refine wf_iast (pc := 32) (j := k) dX9_note_32 lk_160 rfl (by omega) ?_
        refine wp_iinc1 (pc := 33) (L' := [_, _]) dX9_note_33 rfl rfl rfl ?_
        refine wp_goto (pc := 36) 11 dX9_note_36 (by decide) ?_
        refine ih (k + 1) _ (by omega) (by omega) (s1.tr (Sm.w (by omega) (by omega))) (fun j hj => ?_) (fun j hj => (wI_nk (by omega)).trans (hu j (by omega)))
        by_cases e : j = k
        · subst e; exact wI_at _ _ _ _
        · exact (wI_nk e).trans (hd j (by omega))
  refine wp_aload_n (pc := 0) dX9_note_0 rfl ?_
  refine wf_getI (pc := 1) dX9_note_1 fl_X9_140 lk_150 ?_
  rw [H.a.1]
  refine wp_bipush (pc := 4) (x := nI 14) dX9_note_4 bp_14 ?_
  refine wp_icmp_ne (pc := 6) 49 dX9_note_6 (by decide) (fun h6 => ?_) (fun h6 => ?_)
  · have e : ¬ s.c = 14 := fun q => h6 (by rw [q])
    refine wp_ic (pc := 49) (x := nI 0) dX9_note_49 ic_0 ?_
    refine wp_istore_n (pc := 50) (L' := [_, _]) dX9_note_50 (Nat.le_of_ble_eq_true rfl) rfl rfl ?_
    exact loop2 s.c M s.A (by omega) (by unfold nAc; rw [if_neg e]) (fun i hi j hj => by unfold nA; rw [if_neg e]; split <;> rfl) rfl (fun k hk => rfl) (fun a h1 h2 k => rfl) H.a.1 H.a.2 25 0 M (by omega) (by omega) Sm.rf (fun j hj => rfl) (fun j hj => absurd hj (Nat.not_lt_zero _))
  · have e : s.c = 14 := (nI_eq (by omega) (by decide)).mp h6
    refine wp_ic (pc := 9) (x := nI 0) dX9_note_9 ic_0 ?_
    refine wp_istore_n (pc := 10) (L' := [_, _]) dX9_note_10 (Nat.le_of_ble_eq_true rfl) rfl rfl ?_
    exact loop1 e 325 0 M (by omega) (by omega) Sm.rf (fun j hj => absurd hj (Nat.not_lt_zero _)) (fun j hj => rfl)
