theorem XM.slots {M M' : Mm} {s : Sv} {S : Nat → Option Pg} (H : XM M s) (q2 : M'.2 = M.2) (q : ∀ a, a ≠ 161 → a ≠ 162 → ∀ k, M'.1 a k = M.1 a k) (h : ∀ k, k < 2 → M'.1 162 k = b2i (S k).isSome ∧ ∀ P, S k = some P → MT M' 161 (25 * k) P) : XM M' (s.slots S) := by
  obtain ⟨h1, ⟨h2, h3⟩, ⟨w1, w2, w3, w4, w5, w6⟩, h4, ⟨h5, h6⟩, -, ⟨h8, h9⟩, h10⟩ := H
  have e : ∀ a, (a ≠ 161 ∧ a ≠ 162) → ∀ k, M'.1 a k = M.1 a k := fun a ha => q a ha.1 ha.2
  refine ⟨h1.of (by rw [q2]), ⟨(e _ (by simp) _).trans h2, fun k hk => (e _ (by simp) _).trans (h3 k hk)⟩, ⟨(e _ (by simp) _).trans w1, (e _ (by simp) _).trans w2, (e _ (by simp) _).trans w3, fun i hi => (e _ (by simp) _).trans (w4 i hi), fun d hd => ?_, fun m hm => (e _ (by simp) _).trans (w6 m hm)⟩, fun j hj => (e _ (by simp) _).trans (h4 j hj), ⟨(e _ (by simp) _).trans h5, fun i hi j hj => (e _ (by simp) _).trans (h6 i hi j hj)⟩, h, ⟨(e _ (by simp) _).trans h8, fun i hi => ?_⟩, by rw [q2]; exact h10⟩
  · rw [e 153 (by simp), e 153 (by simp), e 153 (by simp)]; exact w5 d hd
  · rw [e 163 (by simp), e 164 (by simp), e 165 (by simp)]; exact h9 i hi
theorem cm_undo {l : Launch} {K : CtxT} {M : Mm} {s : Sv} {B : Nat} (H : XM M s) (V : OkV B s) (hB : B ≤ 9999) : Ci l K 0 mX9_undo [.ref (K.1 + 150)] M (fun r M' => r = (oUndo s).1 ∧ XM M' (oUndo s).2 ∧ Fm M M') := by
  refine ci_of (L := [some (.ref (K.1 + 150)), none]) (by decide +kernel) (Nat.le_of_ble_eq_true rfl) rfl rfl (fun E => ?_)
  have hcc := V.c
  have loop : ¬ s.c = 0 → ∀ (M0 : Mm), XM M0 (s.acts (s.c - 1) s.A) → MT M0 160 (25 * (s.c - 1)) (s.A (s.c - 1)) → Fm M M0 → ∀ (n k : Nat) (M1 : Mm), n = 25 - k → k ≤ 25 → Sm 158 159 M0 M1 → (∀ j, j < k → M1.1 158 j = s.A (s.c - 1) j) → Wp E K mX9_undo 0 (0, 0) 27 [some (.ref (K.1 + 150)), some (.int (nI k))] [] 168 M1 0 0 (zI E K (fun r M' => r = (oUndo s).1 ∧ XM M' (oUndo s).2 ∧ Fm M M')) := by
    intro e M0 H0 hA F n
    induction n with
    | zero =>
      intro k M1 hn hk s1 hd
      refine wp_iload_n (pc := 27) dX9_undo_27 rfl ?_
      refine wp_bipush (pc := 28) (x := nI 25) dX9_undo_28 bp_25 ?_
      refine wp_icmp_ge (pc := 30) 59 dX9_undo_30 (by decide) (fun h30 => ?_) (fun h30 => ?_)
      · have ek : k = 25 := by omega
        subst ek
        refine wp_aload_n (pc := 59) dX9_undo_59 rfl ?_
        refine wf_getI (pc := 60) dX9_undo_60 fl_X9_140 lk_150 ?_
        rw [show M1.1 150 19 = nI (s.c - 1) from (s1.2 150 (by omega) 19).trans H0.a.1]
        refine wf_iret (pc := 63) dX9_undo_63 rfl ?_
        unfold oUndo
        rw [if_neg e]
        exact ⟨rfl, H0.page _ s1 (fun j hj => by rw [Nat.zero_add]; exact hd j hj), F.tr (s1.fm (by decide))⟩
      · exact absurd (nI_le (by omega) (by omega)) h30
    | succ n ih =>
      intro k M1 hn hk s1 hd
      refine wp_iload_n (pc := 27) dX9_undo_27 rfl ?_
      refine wp_bipush (pc := 28) (x := nI 25) dX9_undo_28 bp_25 ?_
      refine wp_icmp_ge (pc := 30) 59 dX9_undo_30 (by decide) (fun h30 => ?_) (fun h30 => ?_)
      · exact absurd h30 (nI_ge (by omega) (by omega))
      · refine wp_aload_n (pc := 33) dX9_undo_33 rfl ?_
        refine wf_getR (pc := 34) dX9_undo_34 fl_X9_35 lk_150 ((s1.rs H0.r) 150 16 158 rfl) ?_
        refine wp_iload_n (pc := 37) dX9_undo_37 rfl ?_
        refine wp_aload_n (pc := 38) dX9_undo_38 rfl ?_
        refine wf_getR (pc := 39) dX9_undo_39 fl_X9_41 lk_150 ((s1.rs H0.r) 150 18 160 rfl) ?_
        refine wp_bipush (pc := 42) (x := nI 25) dX9_undo_42 bp_25 ?_
        refine wp_aload_n (pc := 44) dX9_undo_44 rfl ?_
        refine wf_getI (pc := 45) dX9_undo_45 fl_X9_140 lk_150 ?_
        rw [show M1.1 150 19 = nI (s.c - 1) from (s1.2 150 (by omega) 19).trans H0.a.1]
        refine wp_imul (pc := 48) dX9_undo_48 ?_
        refine wp_iload_n (pc := 49) dX9_undo_49 rfl ?_
        refine wp_iadd (pc := 50) dX9_undo_50 ?_
        refine wf_iald (pc := 51) (j := (25 * (s.c - 1) + k)) dX9_undo_51 lk_160 (by rw [pk_mul, nI_add]) (by omega) ?_
        rw [show M1.1 160 (25 * (s.c - 1) + k) = s.A (s.c - 1) k from (s1.2 160 (by omega) _).trans (hA k (by omega))]
        refine wf_iast (pc := 52) (j := k) dX9_undo_52 lk_158 rfl (by omega) ?_
        refine wp_iinc1 (pc := 53) (L' := [_, _]) dX9_undo_53 rfl rfl rfl ?_
        refine wp_goto (pc := 56) 27 dX9_undo_56 (by decide) ?_
        refine ih (k + 1) _ (by omega) (by omega) (s1.tr (Sm.w (by omega) (by omega))) (fun j hj => ?_)
        by_cases e9 : j = k
        · subst e9; exact wI_at _ _ _ _
        · exact (wI_nk e9).trans (hd j (by omega))
  refine wp_aload_n (pc := 0) dX9_undo_0 rfl ?_
  refine wp_ic (pc := 1) (x := nI 0) dX9_undo_1 ic_0 ?_
  refine wf_putI (pc := 2) dX9_undo_2 fl_X9_66 lk_150 ?_
  have F : Fm M (wI M 150 0 (nI 0)) := Fm.w (by decide)
  have H := H.f (k := 0) (nI 0) (by decide)
  generalize wI M 150 0 (nI 0) = M5 at H F ⊢
  refine wp_aload_n (pc := 5) dX9_undo_5 rfl ?_
  refine wf_getI (pc := 6) dX9_undo_6 fl_X9_140 lk_150 ?_
  rw [H.a.1]
  refine wp_if_ne (pc := 9) 15 dX9_undo_9 (by decide) (fun h9 => ?_) (fun h9 => ?_)
  · have e : ¬ s.c = 0 := fun q => h9 (by rw [q]; rfl)
    refine wp_aload_n (pc := 15) dX9_undo_15 rfl ?_
    refine wp_dup (pc := 16) dX9_undo_16 rfl ?_
    refine wf_getI (pc := 17) dX9_undo_17 fl_X9_140 lk_150 ?_
    refine wp_ic (pc := 20) (x := nI 1) dX9_undo_20 ic_1 ?_
    refine wp_isub (pc := 21) dX9_undo_21 ?_
    rw [H.a.1]
    refine wp_top (nI (s.c - 1)) (pk_sub (by omega)) ?_
    refine wf_putI (pc := 22) dX9_undo_22 fl_X9_140 lk_150 ?_
    refine wp_ic (pc := 25) (x := nI 0) dX9_undo_25 ic_0 ?_
    refine wp_istore_n (pc := 26) (L' := [_, _]) dX9_undo_26 (Nat.le_of_ble_eq_true rfl) rfl rfl ?_
    exact loop e (wI M5 150 19 (nI (s.c - 1))) (H.acts rfl (fun k hk => wI_nk hk) (fun a h1 h2 k => wI_na h1) (wI_at _ _ _ _) (fun i hi => H.a.2 i (by omega))) (H.a.2 (s.c - 1) (by omega)) (F.tr (Fm.w (by decide))) 25 0 _ (by omega) (by omega) Sm.rf (fun j hj => absurd hj (Nat.not_lt_zero _))
  · have e : s.c = 0 := (nI_eq (by omega) (by decide)).mp h9
    refine wp_bipush (pc := 12) (x := (-3)) dX9_undo_12 bp_m3 ?_
    refine wf_iret (pc := 14) dX9_undo_14 rfl ?_
    unfold oUndo; rw [if_pos e]
    exact ⟨rfl, H, F⟩
theorem cm_again {l : Launch} {K : CtxT} {M : Mm} {s : Sv} {B : Nat} (H : XM M s) (V : OkV B s) (hB : B ≤ 9999) {x : Int32} : Ci l K 1 mX9_again [.ref (K.1 + 150), .int x] M (fun r M' => r = (oAgain s x).1 ∧ XM M' (oAgain s x).2 ∧ Fm M M') := by
  refine ci_of (L := [some (.ref (K.1 + 150)), some (.int x), none]) (by decide +kernel) (Nat.le_of_ble_eq_true rfl) rfl rfl (fun E => ?_)
  have loop : ∀ (i : Nat) (P : Pg) (M0 : Mm), i < 2 → s.S i = some P → XM M0 s → Fm M M0 → ∀ (n k : Nat) (M1 : Mm), n = 25 - k → k ≤ 25 → Sm 158 159 M0 M1 → (∀ j, j < k → M1.1 158 j = P j) → Wp E K mX9_again 1 (0, 0) 31 [some (.ref (K.1 + 150)), some (.int (nI i)), some (.int (nI k))] [] 168 M1 0 0 (zI E K (fun r M' => r = (oAgain s (nI i)).1 ∧ XM M' (oAgain s (nI i)).2 ∧ Fm M M')) := by
    intro i P M0 hi hS H0 F n
    induction n with
    | zero =>
      intro k M1 hn hk s1 hd
      refine wp_iload_n (pc := 31) dX9_again_31 rfl ?_
      refine wp_bipush (pc := 32) (x := nI 25) dX9_again_32 bp_25 ?_
      refine wp_icmp_ge (pc := 34) 60 dX9_again_34 (by decide) (fun h34 => ?_) (fun h34 => ?_)
      · have ek : k = 25 := by omega
        subst ek
        refine wp_aload_n (pc := 60) dX9_again_60 rfl ?_
        refine wp_ic (pc := 61) (x := nI 0) dX9_again_61 ic_0 ?_
        refine wf_putI (pc := 62) dX9_again_62 fl_X9_140 lk_150 ?_
        refine wp_aload_n (pc := 65) dX9_again_65 rfl ?_
        refine wf_getR (pc := 66) dX9_again_66 fl_X9_35 lk_150 ((s1.rs H0.r) 150 16 158 rfl) ?_
        refine wp_bipush (pc := 69) (x := nI 24) dX9_again_69 bp_24 ?_
        refine wf_iald (pc := 71) (j := 24) dX9_again_71 lk_158 rfl (by omega) ?_
        refine wf_iret (pc := 72) dX9_again_72 rfl ?_
        have H1 := H0.page (P := P) (hr P) s1 (fun j hj => by rw [Nat.zero_add]; exact hd j hj)
        have F := (F.tr (s1.fm (by decide))).tr (Fm.w (M := M1) (a := 150) (k := 19) (x := nI 0) (by decide))
        have H2 := H1.acts (c := 0) (A := s.A) (M' := wI M1 150 19 (nI 0)) rfl (fun k hk => wI_nk hk) (fun a h1 h2 k => wI_na h1) (wI_at _ _ _ _) (fun i hi => absurd hi (Nat.not_lt_zero _))
        unfold oAgain
        rw [if_pos (inD_nI (by decide) hi), nI_cl (by omega), hS]
        exact ⟨hd 24 (by omega), H2, F⟩
      · exact absurd (nI_le (by omega) (by omega)) h34
    | succ n ih =>
      intro k M1 hn hk s1 hd
      refine wp_iload_n (pc := 31) dX9_again_31 rfl ?_
      refine wp_bipush (pc := 32) (x := nI 25) dX9_again_32 bp_25 ?_
      refine wp_icmp_ge (pc := 34) 60 dX9_again_34 (by decide) (fun h34 => ?_) (fun h34 => ?_)
      · exact absurd h34 (nI_ge (by omega) (by omega))
      · refine wp_aload_n (pc := 37) dX9_again_37 rfl ?_
        refine wf_getR (pc := 38) dX9_again_38 fl_X9_35 lk_150 ((s1.rs H0.r) 150 16 158 rfl) ?_
        refine wp_iload_n (pc := 41) dX9_again_41 rfl ?_
        refine wp_aload_n (pc := 42) dX9_again_42 rfl ?_
        refine wf_getR (pc := 43) dX9_again_43 fl_X9_44 lk_150 ((s1.rs H0.r) 150 20 161 rfl) ?_
        refine wp_bipush (pc := 46) (x := nI 25) dX9_again_46 bp_25 ?_
        refine wp_iload_n (pc := 48) dX9_again_48 rfl ?_
        refine wp_imul (pc := 49) dX9_again_49 ?_
        refine wp_iload_n (pc := 50) dX9_again_50 rfl ?_
        refine wp_iadd (pc := 51) dX9_again_51 ?_
        refine wf_iald (pc := 52) (j := (25 * i + k)) dX9_again_52 lk_161 (by rw [pk_mul, nI_add]) (by omega) ?_
        rw [show M1.1 161 (25 * i + k) = P k from (s1.2 161 (by omega) _).trans ((H0.k i hi).2 P hS k (by omega))]
        refine wf_iast (pc := 53) (j := k) dX9_again_53 lk_158 rfl (by omega) ?_
        refine wp_iinc1 (pc := 54) (L' := [_, _, _]) dX9_again_54 rfl rfl rfl ?_
        refine wp_goto (pc := 57) 31 dX9_again_57 (by decide) ?_
        refine ih (k + 1) _ (by omega) (by omega) (s1.tr (Sm.w (by omega) (by omega))) (fun j hj => ?_)
        by_cases e9 : j = k
        · subst e9; exact wI_at _ _ _ _
        · exact (wI_nk e9).trans (hd j (by omega))
  refine wp_aload_n (pc := 0) dX9_again_0 rfl ?_
  refine wp_ic (pc := 1) (x := nI 0) dX9_again_1 ic_0 ?_
  refine wf_putI (pc := 2) dX9_again_2 fl_X9_66 lk_150 ?_
  have F : Fm M (wI M 150 0 (nI 0)) := Fm.w (by decide)
  have H := H.f (k := 0) (nI 0) (by decide)
  generalize wI M 150 0 (nI 0) = M5 at H F ⊢
  refine wp_iload_n (pc := 5) dX9_again_5 rfl ?_
  refine wp_i2l (pc := 6) dX9_again_6 ?_
  refine wp_lconst (pc := 7) dX9_again_7 rfl ?_
  refine wp_lconst (pc := 8) dX9_again_8 rfl ?_
  refine wf_callSi (pc := 9) dX9_again_9 cl_X9_72 (c_inR 0 1 rfl (by decide)) rfl rfl (Nat.le_of_ble_eq_true rfl) (by decide) ⟨Nat.le_refl _, Nat.le_refl _⟩ (fun r9 M9 q9 => ?_)
  rw [q9.1, q9.2, rg_inD (by decide)]
  refine wp_if_ne (pc := 12) 17 dX9_again_12 (by decide) (fun h12 => ?_) (fun h12 => ?_)
  · have h12 := b2i_1 h12
    have h12 : inD x 2 = true := h12
    obtain ⟨i, hi, ei⟩ := inD_of h12 (by decide)
    subst ei
    refine wp_aload_n (pc := 17) dX9_again_17 rfl ?_
    refine wf_getR (pc := 18) dX9_again_18 fl_X9_47 lk_150 (H.r 150 21 162 rfl) ?_
    refine wp_iload_n (pc := 21) dX9_again_21 rfl ?_
    refine wf_bald (pc := 22) (j := i) dX9_again_22 lk_162 rfl hi ?_
    rw [(H.k i hi).1]
    refine wp_if_ne (pc := 23) 29 dX9_again_23 (by decide) (fun h23 => ?_) (fun h23 => ?_)
    · have h23 := b2i_1 h23
      obtain ⟨P, hP⟩ := Option.isSome_iff_exists.mp h23
      refine wp_ic (pc := 29) (x := nI 0) dX9_again_29 ic_0 ?_
      refine wp_istore_n (pc := 30) (L' := [_, _, _]) dX9_again_30 (Nat.le_of_ble_eq_true rfl) rfl rfl ?_
      exact loop i P M5 hi hP H F 25 0 _ (by omega) (by omega) Sm.rf (fun j hj => absurd hj (Nat.not_lt_zero _))
    · have h23 := b2i_0 h23
      refine wp_bipush (pc := 26) (x := (-3)) dX9_again_26 bp_m3 ?_
      refine wf_iret (pc := 28) dX9_again_28 rfl ?_
      unfold oAgain; rw [if_pos h12, nI_cl (by omega), show s.S i = none by simpa using h23]
      exact ⟨rfl, H, F⟩
  · have h12 := b2i_0 h12
    have h12 : inD x 2 = false := h12
    refine wp_ic (pc := 15) (x := (-1)) dX9_again_15 ic_m1 ?_
    refine wf_iret (pc := 16) dX9_again_16 rfl ?_
    unfold oAgain; rw [if_neg (by rw [h12]; decide)]
    exact ⟨rfl, H, F⟩
