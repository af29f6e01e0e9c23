/-- the state in the reference -/
def XM (M : Mm) (s : Sv) : Prop := RS M ∧ (M.1 150 2 = nI s.n ∧ ∀ k, k < s.n → M.1 151 k = s.T k) ∧ XW M s.Λ ∧ MT M 158 0 s.P ∧ (M.1 150 19 = nI s.c ∧ ∀ i, i < s.c → MT M 160 (25 * i) (s.A i)) ∧ (∀ k, k < 2 → M.1 162 k = b2i (s.S k).isSome ∧ ∀ P, s.S k = some P → MT M 161 (25 * k) P) ∧ (M.1 150 22 = nI s.σ.1 ∧ ∀ i, i < s.σ.1 → M.1 163 i = nI (s.σ.2.1 i) ∧ M.1 164 i = nI (s.σ.2.2.1 i) ∧ M.1 165 i = nI (s.σ.2.2.2 i)) ∧ M.2.1 150 26 = s.e
theorem XM.r {M : Mm} {s : Sv} (H : XM M s) : RS M := H.1
theorem XM.t {M : Mm} {s : Sv} (H : XM M s) : M.1 150 2 = nI s.n ∧ ∀ k, k < s.n → M.1 151 k = s.T k := H.2.1
theorem XM.w {M : Mm} {s : Sv} (H : XM M s) : XW M s.Λ := H.2.2.1
theorem XM.p {M : Mm} {s : Sv} (H : XM M s) : MT M 158 0 s.P := H.2.2.2.1
theorem XM.a {M : Mm} {s : Sv} (H : XM M s) : M.1 150 19 = nI s.c ∧ ∀ i, i < s.c → MT M 160 (25 * i) (s.A i) := H.2.2.2.2.1
theorem XM.k {M : Mm} {s : Sv} (H : XM M s) : ∀ k, k < 2 → M.1 162 k = b2i (s.S k).isSome ∧ ∀ P, s.S k = some P → MT M 161 (25 * k) P := H.2.2.2.2.2.1
theorem XM.s {M : Mm} {s : Sv} (H : XM M s) : M.1 150 22 = nI s.σ.1 ∧ ∀ i, i < s.σ.1 → M.1 163 i = nI (s.σ.2.1 i) ∧ M.1 164 i = nI (s.σ.2.2.1 i) ∧ M.1 165 i = nI (s.σ.2.2.2 i) := H.2.2.2.2.2.2.1
theorem XM.e {M : Mm} {s : Sv} (H : XM M s) : M.2.1 150 26 = s.e := H.2.2.2.2.2.2.2
theorem rg_tf {a b : Nat} {x : Int32} (h : rg a b x = true) : ¬ (x < nI a ∨ nI b < x) := by
  rintro (q | q)
  · rw [rg_n1 q] at h; cases h
  · rw [rg_n2 q] at h; cases h
theorem rg_ff {a b : Nat} {x : Int32} (h : rg a b x = false) : x < nI a ∨ nI b < x := by
  by_cases q : x < nI a
  · exact Or.inl q
  · by_cases r : nI b < x
    · exact Or.inr r
    · rw [rg_y q r] at h; cases h
/-- what a call of the reference leaves of the class -/
def Fm (M M' : Mm) : Prop := (∀ a, a < 150 → ∀ k, M'.1 a k = M.1 a k ∧ M'.2.1 a k = M.2.1 a k) ∧ M'.2.2 = M.2.2
theorem Fm.rf {M : Mm} : Fm M M := ⟨fun _ _ _ => ⟨rfl, rfl⟩, rfl⟩
theorem Fm.tr {M M1 M2 : Mm} (h1 : Fm M M1) (h2 : Fm M1 M2) : Fm M M2 := ⟨fun a ha k => ⟨(h2.1 a ha k).1.trans (h1.1 a ha k).1, (h2.1 a ha k).2.trans (h1.1 a ha k).2⟩, h2.2.trans h1.2⟩
theorem Sm.fm {lo hi : Nat} {M M' : Mm} (h : Sm lo hi M M') (hh : 150 ≤ lo) : Fm M M' := ⟨fun a ha k => ⟨h.2 a (by omega) k, by rw [h.1]⟩, by rw [h.1]⟩
/-- the same but for a few places of the reference -/
theorem XM.chg {M M' : Mm} {s : Sv} (H : XM M s) (q2 : M'.2 = M.2) (q0 : ∀ k, (k = 2 ∨ k = 4 ∨ k = 5 ∨ k = 6 ∨ k = 19 ∨ k = 22) → M'.1 150 k = M.1 150 k) (q : ∀ a, (a = 151 ∨ a = 152 ∨ a = 153 ∨ a = 154 ∨ a = 158 ∨ (160 ≤ a ∧ a ≤ 165)) → ∀ k, M'.1 a k = M.1 a k) : XM M' s := by
  obtain ⟨h1, ⟨h2, h3⟩, ⟨w1, w2, w3, w4, w5, w6⟩, h4, ⟨h5, h6⟩, h7, ⟨h8, h9⟩, h10⟩ := H
  refine ⟨h1.of (by rw [q2]), ⟨(q0 _ (by simp)).trans h2, fun k hk => (q _ (by simp) _).trans (h3 k hk)⟩, ⟨(q0 _ (by simp)).trans w1, (q0 _ (by simp)).trans w2, (q0 _ (by simp)).trans w3, fun i hi => (q _ (by simp) _).trans (w4 i hi), fun d hd => ?_, fun m hm => (q _ (by simp) _).trans (w6 m hm)⟩, fun j hj => (q _ (by simp) _).trans (h4 j hj), ⟨(q0 _ (by simp)).trans h5, fun i hi j hj => (q _ (by simp) _).trans (h6 i hi j hj)⟩, fun k hk => ⟨(q _ (by simp) _).trans (h7 k hk).1, fun P hP j hj => (q _ (by simp) _).trans ((h7 k hk).2 P hP j hj)⟩, ⟨(q0 _ (by simp)).trans h8, fun i hi => ?_⟩, by rw [q2]; exact h10⟩
  · rw [q 153 (by simp), q 153 (by simp), q 153 (by simp)]; exact w5 d hd
  · rw [q 163 (by simp), q 164 (by simp), q 165 (by simp)]; exact h9 i hi
theorem XM.f {M : Mm} {s : Sv} (H : XM M s) {k : Nat} (x : Int32) (hk : k = 0 ∨ k = 3 ∨ 7 ≤ k ∧ k < 19 ∨ 23 ≤ k) : XM (wI M 150 k x) s :=
  H.chg rfl (fun j hj => wI_nk (by omega)) (fun a ha j => wI_na (by omega))
theorem Fm.w {M : Mm} {a k : Nat} {x : Int32} (ha : 150 ≤ a) : Fm M (wI M a k x) := (Sm.w (lo := a) (hi := a + 1) (Nat.le_refl _) (Nat.lt_succ_self _)).fm ha
theorem XM.scr {M M' : Mm} {s : Sv} {lo hi : Nat} (H : XM M s) (q : Sm lo hi M M') (ho : (155 ≤ lo ∧ hi ≤ 158) ∨ (159 ≤ lo ∧ hi ≤ 160) ∨ 166 ≤ lo) : XM M' s :=
  H.chg q.1 (fun j hj => q.2 150 (by omega) j) (fun a ha j => q.2 a (by omega) j)
theorem sumB_ge (P : Pg) (n : Nat) (h : ∀ d, n ≤ d → d < 4 → P (4 + d) = 0) : ∀ k, n ≤ k → k ≤ 4 → sumB P k = sumB P n := by
  intro k
  induction k with
  | zero => intro h1 _; have : n = 0 := by omega
            subst this; rfl
  | succ k ih =>
    intro h1 h2
    by_cases e : n = k + 1
    · rw [e]
    · show sumB P k + P (4 + k) = _
      rw [ih (by omega) (by omega), h k (by omega) (by omega)]
      simp
theorem sumB_4 {Λ : Lw} {P : Pg} {h : Nat} (H : OkP Λ P h) (hL : OkN Λ) : sumB P 4 = sumB P (lD Λ) := sumB_ge P (lD Λ) (fun d h1 h2 => (H.2.2.2.1 d h1 h2).2) 4 hL.1 (Nat.le_refl _)
theorem cm_wipe {l : Launch} {K : CtxT} {M : Mm} {s : Sv} {B : Nat} (H : XM M s) (V : OkV B s) (hB : B ≤ 9999) : Ci l K 0 mX9_wipe [.ref (K.1 + 150)] M (fun r M' => r = nI s.n ∧ XM M' (s.txt 0 s.T) ∧ Fm M M') := by
  refine ci_of (L := [some (.ref (K.1 + 150)), none]) (by decide +kernel) (Nat.le_of_ble_eq_true rfl) rfl rfl (fun E => ?_)
  refine wp_aload_n (pc := 0) dX9_wipe_0 rfl ?_
  refine wp_ic (pc := 1) (x := nI 0) dX9_wipe_1 ic_0 ?_
  refine wf_putI (pc := 2) dX9_wipe_2 fl_X9_66 lk_150 ?_
  have F : Fm M (wI M 150 0 (nI 0)) := Fm.w (by decide)
  have H := H.f (k := 0) (nI 0) (by decide)
  generalize wI M 150 0 (nI 0) = M5 at H F ⊢
  refine wp_aload_n (pc := 5) dX9_wipe_5 rfl ?_
  refine wf_getI (pc := 6) dX9_wipe_6 fl_X9_81 lk_150 ?_
  rw [H.t.1]
  refine wp_istore_n (pc := 9) (L' := [_, _]) dX9_wipe_9 (Nat.le_of_ble_eq_true rfl) rfl rfl ?_
  refine wp_aload_n (pc := 10) dX9_wipe_10 rfl ?_
  refine wp_ic (pc := 11) (x := nI 0) dX9_wipe_11 ic_0 ?_
  refine wf_putI (pc := 12) dX9_wipe_12 fl_X9_81 lk_150 ?_
  refine wp_iload_n (pc := 15) dX9_wipe_15 rfl ?_
  refine wf_iret (pc := 16) dX9_wipe_16 rfl ?_
  have F := F.tr (Fm.w (M := M5) (a := 150) (k := 2) (x := nI 0) (by decide))
  obtain ⟨h1, ⟨h2, h3⟩, h4, h5, h6, h7, h8, h9⟩ := H
  exact ⟨rfl, ⟨h1, ⟨wI_at _ _ _ _, fun k hk => absurd hk (Nat.not_lt_zero _)⟩, h4, h5, h6, h7, h8, h9⟩, F⟩
theorem cm_write {l : Launch} {K : CtxT} {M : Mm} {s : Sv} {B : Nat} (H : XM M s) (V : OkV B s) (hB : B ≤ 9999) {x : Int32} : Ci l K 1 mX9_write [.ref (K.1 + 150), .int x] M (fun r M' => r = (oWrite s x).1 ∧ XM M' (oWrite s x).2 ∧ Fm M M') := by
  refine ci_of (L := [some (.ref (K.1 + 150)), some (.int x)]) (by decide +kernel) (Nat.le_of_ble_eq_true rfl) rfl rfl (fun E => ?_)
  have hn := V.n
  refine wp_aload_n (pc := 0) dX9_write_0 rfl ?_
  refine wp_ic (pc := 1) (x := nI 0) dX9_write_1 ic_0 ?_
  refine wf_putI (pc := 2) dX9_write_2 fl_X9_66 lk_150 ?_
  have F : Fm M (wI M 150 0 (nI 0)) := Fm.w (by decide)
  have H := H.f (k := 0) (nI 0) (by decide)
  generalize wI M 150 0 (nI 0) = M5 at H F ⊢
  refine wp_iload_n (pc := 5) dX9_write_5 rfl ?_
  refine wp_i2l (pc := 6) dX9_write_6 ?_
  refine wp_lconst (pc := 7) dX9_write_7 rfl ?_
  refine wp_ldc2 (pc := 8) dX9_write_8 kc_X9_79 ?_
  refine wf_callSi (pc := 11) dX9_write_11 cl_X9_72 (c_inR 0 255 rfl (by decide)) rfl rfl (Nat.le_of_ble_eq_true rfl) (by decide) ⟨Nat.le_refl _, Nat.le_refl _⟩ (fun r11 M11 q11 => ?_)
  rw [q11.1, q11.2]
  refine wp_if_ne (pc := 14) 20 dX9_write_14 (by decide) (fun h14 => ?_) (fun h14 => ?_)
  · have h14 := b2i_1 h14
    have e : ¬ (x < 0 ∨ nI 255 < x) := rg_tf h14
    refine wp_aload_n (pc := 20) dX9_write_20 rfl ?_
    refine wf_getI (pc := 21) dX9_write_21 fl_X9_81 lk_150 ?_
    rw [H.t.1]
    refine wp_bipush (pc := 24) (x := nI 60) dX9_write_24 bp_60 ?_
    refine wp_icmp_ne (pc := 26) 32 dX9_write_26 (by decide) (fun h26 => ?_) (fun h26 => ?_)
    · have e2 : ¬ 60 ≤ s.n := fun q => h26 (by rw [show s.n = 60 by omega])
      refine wp_aload_n (pc := 32) dX9_write_32 rfl ?_
      refine wf_getR (pc := 33) dX9_write_33 fl_X9_7 lk_150 (H.r 150 1 151 rfl) ?_
      refine wp_aload_n (pc := 36) dX9_write_36 rfl ?_
      refine wf_getI (pc := 37) dX9_write_37 fl_X9_81 lk_150 ?_
      refine wp_iload_n (pc := 40) dX9_write_40 rfl ?_
      refine wf_iast (pc := 41) (j := s.n) dX9_write_41 lk_151 H.t.1 (by omega) ?_
      refine wp_aload_n (pc := 42) dX9_write_42 rfl ?_
      refine wp_dup (pc := 43) dX9_write_43 rfl ?_
      refine wf_getI (pc := 44) dX9_write_44 fl_X9_81 lk_150 ?_
      refine wp_ic (pc := 47) (x := nI 1) dX9_write_47 ic_1 ?_
      refine wp_iadd (pc := 48) dX9_write_48 ?_
      refine wp_top (nI (s.n + 1)) (by rw [show (wI M5 151 s.n x).1 150 2 = nI s.n from H.t.1]; exact nI_1 _) ?_
      refine wf_putI (pc := 49) dX9_write_49 fl_X9_81 lk_150 ?_
      refine wp_aload_n (pc := 52) dX9_write_52 rfl ?_
      refine wf_getI (pc := 53) dX9_write_53 fl_X9_81 lk_150 ?_
      refine wp_top (nI (s.n + 1)) (wI_at _ _ _ _) ?_
      refine wf_iret (pc := 56) dX9_write_56 rfl ?_
      unfold oWrite; rw [if_neg e, if_neg e2]
      have F := (F.tr (Fm.w (M := M5) (a := 151) (k := s.n) (x := x) (by decide))).tr (Fm.w (M := wI M5 151 s.n x) (a := 150) (k := 2) (x := nI (s.n + 1)) (by decide))
      obtain ⟨h1, ⟨h2, h3⟩, h4, h5, h6, h7, h8, h9⟩ := H
      refine ⟨rfl, ⟨h1, ⟨wI_at _ _ _ _, fun k hk => ?_⟩, h4, h5, h6, h7, h8, h9⟩, F⟩
      rw [wI_na (by decide)]
      have hk : k < s.n + 1 := hk
      show _ = upd s.T s.n x k
      by_cases ek : k = s.n
      · subst ek; rw [wI_at]; simp [upd]
      · rw [wI_nk ek]; simp only [upd, if_neg ek]; exact h3 k (by omega)
    · have e2 : 60 ≤ s.n := by have := (nI_eq (by omega) (by decide)).mp h26; omega
      refine wp_bipush (pc := 29) (x := (-4)) dX9_write_29 bp_m4 ?_
      refine wf_iret (pc := 31) dX9_write_31 rfl ?_
      unfold oWrite; rw [if_neg e, if_pos e2]
      exact ⟨rfl, H, F⟩
  · have h14 := b2i_0 h14
    have e : x < 0 ∨ nI 255 < x := rg_ff h14
    refine wp_bipush (pc := 17) (x := (-2)) dX9_write_17 bp_m2 ?_
    refine wf_iret (pc := 19) dX9_write_19 rfl ?_
    unfold oWrite; rw [if_pos e]
    exact ⟨rfl, H, F⟩
theorem cm_about {l : Launch} {K : CtxT} {M : Mm} {s : Sv} {B : Nat} (H : XM M s) (V : OkV B s) (hB : B ≤ 9999) {x : Int32} : Ci l K 1 mX9_about [.ref (K.1 + 150), .int x] M (fun r M' => r = oAbout s x ∧ XM M' s ∧ Fm M M') := by
  refine ci_of (L := [some (.ref (K.1 + 150)), some (.int x)]) (by decide +kernel) (Nat.le_of_ble_eq_true rfl) rfl rfl (fun E => ?_)
  have hh := V.h
  refine wp_aload_n (pc := 0) dX9_about_0 rfl ?_
  refine wp_ic (pc := 1) (x := nI 0) dX9_about_1 ic_0 ?_
  refine wf_putI (pc := 2) dX9_about_2 fl_X9_66 lk_150 ?_
  have F : Fm M (wI M 150 0 (nI 0)) := Fm.w (by decide)
  have H := H.f (k := 0) (nI 0) (by decide)
  generalize wI M 150 0 (nI 0) = M5 at H F ⊢
  refine wp_iload_n (pc := 5) dX9_about_5 rfl ?_
  by_cases e0 : x = nI 0
  · refine wp_tabIn (pc := 6) 64 dX9_about_6 (by rw [e0]; decide) (by rw [e0]; decide) (by rw [e0]; rfl) (by decide) ?_
    refine wp_aload_n (pc := 64) dX9_about_64 rfl ?_
    refine wf_getI (pc := 65) dX9_about_65 fl_X9_69 lk_150 ?_
    refine wf_iret (pc := 68) dX9_about_68 rfl ?_
    refine ⟨?_, H, F⟩
    unfold oAbout; rw [if_pos e0]
    exact H.w.1
  by_cases e1 : x = nI 1
  · refine wp_tabIn (pc := 6) 69 dX9_about_6 (by rw [e1]; decide) (by rw [e1]; decide) (by rw [e1]; rfl) (by decide) ?_
    refine wp_aload_n (pc := 69) dX9_about_69 rfl ?_
    refine wf_getI (pc := 70) dX9_about_70 fl_X9_76 lk_150 ?_
    refine wf_iret (pc := 73) dX9_about_73 rfl ?_
    refine ⟨?_, H, F⟩
    unfold oAbout; rw [if_neg e0, if_pos e1]
    exact H.w.2.1
  by_cases e2 : x = nI 2
  · refine wp_tabIn (pc := 6) 74 dX9_about_6 (by rw [e2]; decide) (by rw [e2]; decide) (by rw [e2]; rfl) (by decide) ?_
    refine wp_aload_n (pc := 74) dX9_about_74 rfl ?_
    refine wf_getI (pc := 75) dX9_about_75 fl_X9_13 lk_150 ?_
    refine wf_iret (pc := 78) dX9_about_78 rfl ?_
    refine ⟨?_, H, F⟩
    unfold oAbout; rw [if_neg e0, if_neg e1, if_pos e2]
    exact H.w.2.2.1
  by_cases e3 : x = nI 3
  · refine wp_tabIn (pc := 6) 79 dX9_about_6 (by rw [e3]; decide) (by rw [e3]; decide) (by rw [e3]; rfl) (by decide) ?_
    refine wp_aload_n (pc := 79) dX9_about_79 rfl ?_
    refine wf_getR (pc := 80) dX9_about_80 fl_X9_35 lk_150 (H.r 150 16 158 rfl) ?_
    refine wp_bipush (pc := 83) (x := nI 24) dX9_about_83 bp_24 ?_
    refine wf_iald (pc := 85) (j := 24) dX9_about_85 lk_158 rfl (by omega) ?_
    refine wf_iret (pc := 86) dX9_about_86 rfl ?_
    refine ⟨?_, H, F⟩
    unfold oAbout; rw [if_neg e0, if_neg e1, if_neg e2, if_pos e3]
    exact ((show M5.1 158 (24) = s.P (24) by have := H.p (24) (by omega); rwa [Nat.zero_add] at this).trans V.p.1)
  by_cases e4 : x = nI 4
  · refine wp_tabIn (pc := 6) 87 dX9_about_6 (by rw [e4]; decide) (by rw [e4]; decide) (by rw [e4]; rfl) (by decide) ?_
    refine wp_aload_n (pc := 87) dX9_about_87 rfl ?_
    refine wf_getR (pc := 88) dX9_about_88 fl_X9_17 lk_150 (H.r 150 7 152 rfl) ?_
    refine wp_aload_n (pc := 91) dX9_about_91 rfl ?_
    refine wf_getR (pc := 92) dX9_about_92 fl_X9_35 lk_150 (H.r 150 16 158 rfl) ?_
    refine wp_bipush (pc := 95) (x := nI 24) dX9_about_95 bp_24 ?_
    refine wf_iald (pc := 97) (j := 24) dX9_about_97 lk_158 rfl (by omega) ?_
    refine wp_ic (pc := 98) (x := nI 4) dX9_about_98 ic_4 ?_
    refine wp_iremN (pc := 99) dX9_about_99 ((show M5.1 158 (24) = s.P (24) by have := H.p (24) (by omega); rwa [Nat.zero_add] at this).trans V.p.1) rfl (by omega) (by decide) (by decide) ?_
    refine wf_iald (pc := 100) (j := (s.h % 4)) dX9_about_100 lk_152 rfl (by omega) ?_
    refine wf_iret (pc := 101) dX9_about_101 rfl ?_
    refine ⟨?_, H, F⟩
    unfold oAbout; rw [if_neg e0, if_neg e1, if_neg e2, if_neg e3, if_pos e4]
    exact H.w.2.2.2.1 _ (by omega)
  by_cases e5 : x = nI 5
  · refine wp_tabIn (pc := 6) 102 dX9_about_6 (by rw [e5]; decide) (by rw [e5]; decide) (by rw [e5]; rfl) (by decide) ?_
    refine wp_aload_n (pc := 102) dX9_about_102 rfl ?_
    refine wf_getR (pc := 103) dX9_about_103 fl_X9_35 lk_150 (H.r 150 16 158 rfl) ?_
    refine wp_bipush (pc := 106) (x := nI 18) dX9_about_106 bp_18 ?_
    refine wf_iald (pc := 108) (j := 18) dX9_about_108 lk_158 rfl (by omega) ?_
    refine wf_iret (pc := 109) dX9_about_109 rfl ?_
    refine ⟨?_, H, F⟩
    unfold oAbout; rw [if_neg e0, if_neg e1, if_neg e2, if_neg e3, if_neg e4, if_pos e5]
    exact (show M5.1 158 (18) = s.P (18) by have := H.p (18) (by omega); rwa [Nat.zero_add] at this)
  by_cases e6 : x = nI 6
  · refine wp_tabIn (pc := 6) 110 dX9_about_6 (by rw [e6]; decide) (by rw [e6]; decide) (by rw [e6]; rfl) (by decide) ?_
    refine wp_aload_n (pc := 110) dX9_about_110 rfl ?_
    refine wf_callVi (pc := 111) dX9_about_111 cl_X9_143 (c_impoundedR H.r V.l.N H.w H.p) lk_150 rfl rfl rfl rfl (Nat.le_of_ble_eq_true rfl) (by decide) ⟨Nat.le_refl _, Nat.le_refl _⟩ (fun r111 M111 q111 => ?_)
    rw [q111.1, q111.2]
    refine wf_iret (pc := 114) dX9_about_114 rfl ?_
    refine ⟨?_, H, F⟩
    unfold oAbout; rw [if_neg e0, if_neg e1, if_neg e2, if_neg e3, if_neg e4, if_neg e5, if_pos e6]
  by_cases e7 : x = nI 7
  · refine wp_tabIn (pc := 6) 115 dX9_about_6 (by rw [e7]; decide) (by rw [e7]; decide) (by rw [e7]; rfl) (by decide) ?_
    refine wp_aload_n (pc := 115) dX9_about_115 rfl ?_
    refine wf_getR (pc := 116) dX9_about_116 fl_X9_35 lk_150 (H.r 150 16 158 rfl) ?_
    refine wf_callSi (pc := 119) dX9_about_119 cl_X9_146 (c_bonesOf (p := 158) rfl H.p) rfl rfl (Nat.le_of_ble_eq_true rfl) (by decide) ⟨Nat.le_refl _, Nat.le_refl _⟩ (fun r119 M119 q119 => ?_)
    rw [q119.1, q119.2]
    refine wf_iret (pc := 122) dX9_about_122 rfl ?_
    refine ⟨?_, H, F⟩
    unfold oAbout; rw [if_neg e0, if_neg e1, if_neg e2, if_neg e3, if_neg e4, if_neg e5, if_neg e6, if_pos e7]
    exact sumB_4 V.p V.l.N
  by_cases e8 : x = nI 8
  · refine wp_tabIn (pc := 6) 123 dX9_about_6 (by rw [e8]; decide) (by rw [e8]; decide) (by rw [e8]; rfl) (by decide) ?_
    refine wp_aload_n (pc := 123) dX9_about_123 rfl ?_
    refine wf_getI (pc := 124) dX9_about_124 fl_X9_140 lk_150 ?_
    refine wf_iret (pc := 127) dX9_about_127 rfl ?_
    refine ⟨?_, H, F⟩
    unfold oAbout; rw [if_neg e0, if_neg e1, if_neg e2, if_neg e3, if_neg e4, if_neg e5, if_neg e6, if_neg e7, if_pos e8]
    exact H.a.1
  by_cases e9 : x = nI 9
  · refine wp_tabIn (pc := 6) 128 dX9_about_6 (by rw [e9]; decide) (by rw [e9]; decide) (by rw [e9]; rfl) (by decide) ?_
    refine wp_aload_n (pc := 128) dX9_about_128 rfl ?_
    refine wf_getI (pc := 129) dX9_about_129 fl_X9_150 lk_150 ?_
    refine wf_iret (pc := 132) dX9_about_132 rfl ?_
    refine ⟨?_, H, F⟩
    unfold oAbout; rw [if_neg e0, if_neg e1, if_neg e2, if_neg e3, if_neg e4, if_neg e5, if_neg e6, if_neg e7, if_neg e8, if_pos e9]
    exact H.s.1
  by_cases e10 : x = nI 10
  · refine wp_tabIn (pc := 6) 133 dX9_about_6 (by rw [e10]; decide) (by rw [e10]; decide) (by rw [e10]; rfl) (by decide) ?_
    refine wp_aload_n (pc := 133) dX9_about_133 rfl ?_
    refine wf_getI (pc := 134) dX9_about_134 fl_X9_81 lk_150 ?_
    refine wf_iret (pc := 137) dX9_about_137 rfl ?_
    refine ⟨?_, H, F⟩
    unfold oAbout; rw [if_neg e0, if_neg e1, if_neg e2, if_neg e3, if_neg e4, if_neg e5, if_neg e6, if_neg e7, if_neg e8, if_neg e9, if_pos e10]
    exact H.t.1
  have eN : ∀ i, i ≤ 10 → ¬ x = nI i := by
    intro i hi
    have : i = 0 ∨ i = 1 ∨ i = 2 ∨ i = 3 ∨ i = 4 ∨ i = 5 ∨ i = 6 ∨ i = 7 ∨ i = 8 ∨ i = 9 ∨ i = 10 := by omega
    rcases this with rfl | rfl | rfl | rfl | rfl | rfl | rfl | rfl | rfl | rfl | rfl
    · exact e0
    · exact e1
    · exact e2
    · exact e3
    · exact e4
    · exact e5
    · exact e6
    · exact e7
    · exact e8
    · exact e9
    · exact e10
  refine wp_tabOut (pc := 6) 138 dX9_about_6 (tab_out (by decide) eN) (by decide) ?_
  refine wp_bipush (pc := 138) (x := (-2)) dX9_about_138 bp_m2 ?_
  refine wf_iret (pc := 140) dX9_about_140 rfl ?_
  refine ⟨?_, H, F⟩
  unfold oAbout; rw [if_neg e0, if_neg e1, if_neg e2, if_neg e3, if_neg e4, if_neg e5, if_neg e6, if_neg e7, if_neg e8, if_neg e9, if_neg e10]
