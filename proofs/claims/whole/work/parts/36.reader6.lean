theorem Sz.fr {M M' : Mm} (h : Sz M M') : Fr M M' := fun a ha k => ⟨h.2 a (by omega) k, by rw [h.1]⟩
/-- a page with nothing told of dogs and men that are not there -/
def nrm (Λ : Lw) (P : Pg) : Pg := fun j => if j < 4 then (if j < lD Λ then P j else 0) else if j < 8 then (if j - 4 < lD Λ then P j else 0) else if j < 13 then (if j - 8 < lM Λ then P j else 0) else if j < 18 then (if j - 13 < lM Λ then P j else 0) else if j = 18 then P j else if j < 24 then (if j - 19 < lM Λ then P j else 0) else P j
section NRM
variable (Λ : Lw) (P : Pg)
theorem nrm_d {d : Nat} (hd : d < 4) : nrm Λ P d = if d < lD Λ then P d else 0 := by simp [nrm, hd]
theorem nrm_b {d : Nat} (hd : d < 4) : nrm Λ P (4 + d) = if d < lD Λ then P (4 + d) else 0 := by simp [nrm, show ¬ 4 + d < 4 by omega, show 4 + d < 8 by omega]
theorem nrm_k {m : Nat} (hm : m < 5) : nrm Λ P (8 + m) = if m < lM Λ then P (8 + m) else 0 := by simp [nrm, show ¬ 8 + m < 4 by omega, show ¬ 8 + m < 8 by omega, show 8 + m < 13 by omega]
theorem nrm_m {m : Nat} (hm : m < 5) : nrm Λ P (13 + m) = if m < lM Λ then P (13 + m) else 0 := by simp [nrm, show ¬ 13 + m < 4 by omega, show ¬ 13 + m < 8 by omega, show ¬ 13 + m < 13 by omega, show 13 + m < 18 by omega]
theorem nrm_s {m : Nat} (hm : m < 5) : nrm Λ P (19 + m) = if m < lM Λ then P (19 + m) else 0 := by simp [nrm, show ¬ 19 + m < 4 by omega, show ¬ 19 + m < 8 by omega, show ¬ 19 + m < 13 by omega, show ¬ 19 + m < 18 by omega, show ¬ 19 + m = 18 by omega, show 19 + m < 24 by omega]
theorem nrm_18 : nrm Λ P 18 = P 18 := by simp [nrm]
theorem nrm_24 : nrm Λ P 24 = P 24 := by simp [nrm]
end NRM
theorem XT.nrm {M : Mm} {t : Nat} {Λ : Lw} {P : Pg} (h : XT M t Λ P) (hL : OkN Λ) : XT M t Λ (nrm Λ P) := by
  obtain ⟨h1, h2, h3, h4⟩ := h
  have hD := hL.1
  have hM := hL.2.1
  refine ⟨by rw [nrm_24]; exact h1, by rw [nrm_18]; exact h2, fun d hd => ?_, fun m hm => ?_⟩
  · rw [nrm_d Λ P (by omega), nrm_b Λ P (by omega), if_pos hd, if_pos hd]; exact h3 d hd
  · rw [nrm_k Λ P (by omega), nrm_m Λ P (by omega), nrm_s Λ P (by omega), if_pos hm, if_pos hm, if_pos hm]; exact h4 m hm
/-- the state behind a law -/
abbrev ordS (s : Sv) (σ : Rs) : Sv := (s.T, s.n, σ.2.2.2.1, nrm σ.2.2.2.1 σ.2.2.2.2, 0, 0, s.A, fun _ => none, s.σ, s.e)
theorem XI.ord {M M1 M2 : Mm} {s : Sv} {σ : Rs} (H : XI M s) (hL : OkN σ.2.2.2.1) (q1 : Sm 14 19 M M1) (l1 : XL M1 14 σ.2.2.2.1) (q2 : Sm 19 25 M1 M2) (p2 : XT M2 19 σ.2.2.2.1 σ.2.2.2.2) : XI (wI (wI M2 31 0 (nI 0)) 117 1 (nI 0)) (ordS s σ) := by
  have q3 : Sm 31 118 M2 (wI (wI M2 31 0 (nI 0)) 117 1 (nI 0)) := (Sm.w (by omega) (by omega)).tr (Sm.w (by omega) (by omega))
  have q : Sm 14 118 M (wI (wI M2 31 0 (nI 0)) 117 1 (nI 0)) := ((q1.up (by omega) (by omega)).tr (q2.up (by omega) (by omega))).tr (q3.up (by omega) (by omega))
  obtain ⟨a1, a2, π, a3, a4, a5, a6⟩ := H.a
  refine ⟨q.rs H.r, H.t.si q.si (by omega), (l1.sm q2 (by omega)).sm q3 (by omega), (p2.nrm hL).sm q3 (by omega), ⟨show (0 : Nat) ≤ 14 by decide, (wI_na (by decide)).trans (wI_at _ _ _ _), π, a3, a4, fun i hi => ?_, fun i hi => absurd hi (Nat.not_lt_zero _)⟩, ⟨⟨0, by decide, wI_at _ _ _ _, fun k hk => ?_⟩, fun k hk P hP => by cases hP⟩, H.s.si q.si (by omega), ?_, ?_⟩
  · rw [q.1]; exact a5 i hi
  · constructor
    · intro w; simp at w
    · rintro ⟨P, w⟩; cases w
  · obtain ⟨re, rn, h⟩ := H.h
    exact ⟨re, rn, h.sm q⟩
  · rw [q.1]; exact H.e
theorem nI_n9 {k : Nat} (hk : k ≤ 60) : nI k ≠ no9 := by
  have e : ∀ k, k ≤ 60 → nI k ≠ no9 := by decide +kernel
  exact e k hk
theorem c_fault {l : Launch} {K : CtxT} {M : Mm} {s : Sv} {B : Nat} (H : XI M s) (V : OkV B s) (hB : B ≤ 9999) : Ci l K 6 mX8_fault [.ref (K.1 + 0)] M (fun r M' => RdA M s.T s.n r M' ∧ XI M' s ∧ Fr M M') := by
  refine ci_of (L := [some (.ref (K.1 + 0))]) (by decide +kernel) (Nat.le_of_ble_eq_true rfl) rfl rfl (fun E => ?_)
  refine wp_aload_n (pc := 0) dX8_fault_0 rfl ?_
  refine wf_getR (pc := 1) dX8_fault_1 fl_X8_20 lk_0 (H.r 0 2 2 rfl) ?_
  refine wp_aload_n (pc := 4) dX8_fault_4 rfl ?_
  refine wf_getR (pc := 5) dX8_fault_5 fl_X8_9 lk_0 (H.r 0 0 1 rfl) ?_
  refine wp_aload_n (pc := 8) dX8_fault_8 rfl ?_
  refine wf_getI (pc := 9) dX8_fault_9 fl_X8_13 lk_0 ?_
  rw [H.t.1]
  refine wf_callVi (pc := 12) dX8_fault_12 cl_X8_73 (c_firstFault H.r V.n H.t.2 V.t) lk_2 rfl rfl rfl rfl (Nat.le_of_ble_eq_true rfl) (by decide) ⟨Nat.le_refl _, Nat.le_refl _⟩ (fun r12 M12 q12 => ?_)
  have F : Fr M M12 := q12.1.fr
  have H := H.scr q12.1.sm (by omega)
  refine wf_iret (pc := 15) dX8_fault_15 rfl ?_
  exact ⟨q12.2, H, F⟩
theorem c_ordain {l : Launch} {K : CtxT} {M : Mm} {s : Sv} {B : Nat} (H : XI M s) (V : OkV B s) (hB : B ≤ 9999) : Ci l K 6 mX8_ordain [.ref (K.1 + 0)] M (fun r M' => Fr M M' ∧ ∃ r0 M0, RdA M s.T s.n r0 M0 ∧ ((r0 ≠ no9 ∧ r = -3 ∧ XI M' s) ∨ (∃ σ0 σ, St0 M σ0 ∧ rnS σ0 s.T s.n = some σ ∧ σ.1 = 1 ∧ OkR σ ∧ r0 = no9 ∧ r = nI (10 * lD σ.2.2.2.1 + lM σ.2.2.2.1) ∧ XI M' (ordS s σ)))) := by
  refine ci_of (L := [some (.ref (K.1 + 0))]) (by decide +kernel) (Nat.le_of_ble_eq_true rfl) rfl rfl (fun E => ?_)
  have HR := H.r
  refine wp_aload_n (pc := 0) dX8_ordain_0 rfl ?_
  refine wf_getR (pc := 1) dX8_ordain_1 fl_X8_20 lk_0 (HR 0 2 2 rfl) ?_
  refine wp_aload_n (pc := 4) dX8_ordain_4 rfl ?_
  refine wf_getR (pc := 5) dX8_ordain_5 fl_X8_9 lk_0 (HR 0 0 1 rfl) ?_
  refine wp_aload_n (pc := 8) dX8_ordain_8 rfl ?_
  refine wf_getI (pc := 9) dX8_ordain_9 fl_X8_13 lk_0 ?_
  rw [H.t.1]
  refine wf_callVi (pc := 12) dX8_ordain_12 cl_X8_73 (c_firstFault H.r V.n H.t.2 V.t) lk_2 rfl rfl rfl rfl (Nat.le_of_ble_eq_true rfl) (by decide) ⟨Nat.le_refl _, Nat.le_refl _⟩ (fun r12 M12 q12 => ?_)
  have F : Fr M M12 := q12.1.fr
  have H := H.scr q12.1.sm (by omega)
  have HR := H.r
  refine wp_bipush (pc := 15) (x := (-9)) dX8_ordain_15 bp_m9 ?_
  refine wp_icmp_eq (pc := 17) 23 dX8_ordain_17 (by decide) (fun h17 => ?_) (fun h17 => ?_)
  · have q12b := q12.2
    obtain ⟨σ0, h0, ⟨k, σ, hk, -, -, e⟩ | ⟨σ, e1, hO, hX, e⟩⟩ := q12b
    · exact absurd (e.symm.trans h17) (nI_n9 (by have := V.n; omega))
    have e3 : σ.1 = 1 := by by_cases w : σ.1 = 1; exact w; rw [if_neg w] at e; exact absurd (e.symm.trans h17) (nI_n9 V.n)
    have hL : OkN σ.2.2.2.1 := hO.1
    refine wp_aload_n (pc := 23) dX8_ordain_23 rfl ?_
    refine wf_getR (pc := 24) dX8_ordain_24 fl_X8_27 lk_0 (HR 0 3 14 rfl) ?_
    refine wp_aload_n (pc := 27) dX8_ordain_27 rfl ?_
    refine wf_getR (pc := 28) dX8_ordain_28 fl_X8_20 lk_0 (HR 0 2 2 rfl) ?_
    refine wf_getR (pc := 31) dX8_ordain_31 fl_X8_77 lk_2 (HR 2 0 3 rfl) ?_
    refine wf_callVv (pc := 34) dX8_ordain_34 cl_X8_78 (c_Law_become H.r) IL_14.1 rfl rfl rfl rfl (Nat.le_of_ble_eq_true rfl) (by decide) ⟨Nat.le_refl _, Nat.le_refl _⟩ (fun M34 q34 => ?_)
    have l1 := XR_become hX hL q34.1 q34.2.1
    have F := F.tr (q34.2.2.fr (by decide))
    have HR := q34.2.2.rs HR
    have hR2 := HR
    have t1 : XT M34 8 σ.2.2.2.1 σ.2.2.2.2 := (hX.XT hL).sm q34.2.2 (by omega)
    refine wp_aload_n (pc := 37) dX8_ordain_37 rfl ?_
    refine wf_getR (pc := 38) dX8_ordain_38 fl_X8_34 lk_0 (HR 0 4 19 rfl) ?_
    refine wp_aload_n (pc := 41) dX8_ordain_41 rfl ?_
    refine wf_getR (pc := 42) dX8_ordain_42 fl_X8_20 lk_0 (HR 0 2 2 rfl) ?_
    refine wf_getR (pc := 45) dX8_ordain_45 fl_X8_82 lk_2 (HR 2 1 8 rfl) ?_
    refine wf_callVv (pc := 48) dX8_ordain_48 cl_X8_83 (c_Town_become IT_19 IT_8 hR2 (by omega)) IT_19.1 rfl rfl rfl rfl (Nat.le_of_ble_eq_true rfl) (by decide) ⟨Nat.le_refl _, Nat.le_refl _⟩ (fun M48 q48 => ?_)
    have F := F.tr (q48.2.fr (by decide))
    have HR := q48.2.rs hR2
    have hR3 := HR
    have p2 := q48.1.XT ⟨hL.1, hL.2.1⟩ t1
    have H := H.ord hL q34.2.2 l1 q48.2 p2
    refine wp_aload_n (pc := 51) dX8_ordain_51 rfl ?_
    refine wf_getR (pc := 52) dX8_ordain_52 fl_X8_44 lk_0 (HR 0 6 31 rfl) ?_
    refine wf_callVv (pc := 55) dX8_ordain_55 cl_X8_86 (c_acts_forget hR3) lk_31 rfl rfl rfl rfl (Nat.le_of_ble_eq_true rfl) (by decide) ⟨Nat.le_refl _, Nat.le_refl _⟩ (fun M55 q55 => ?_)
    rw [q55]
    have hR4 : RS (wI M48 31 0 (nI 0)) := hR3
    have HR := hR4
    have F := F.tr ((Sm.w (lo := 31) (hi := 32) (a := 31) (M := M48) (k := 0) (x := nI 0) (by omega) (by omega)).fr (by decide))
    refine wp_aload_n (pc := 58) dX8_ordain_58 rfl ?_
    refine wf_getR (pc := 59) dX8_ordain_59 fl_X8_51 lk_0 (HR 0 7 117 rfl) ?_
    refine wf_callVv (pc := 62) dX8_ordain_62 cl_X8_89 (c_slots_forget hR4) lk_117 rfl rfl rfl rfl (Nat.le_of_ble_eq_true rfl) (by decide) ⟨Nat.le_refl _, Nat.le_refl _⟩ (fun M62 q62 => ?_)
    rw [q62]
    have HR : RS (wI (wI M48 31 0 (nI 0)) 117 1 (nI 0)) := hR4
    have F := F.tr ((Sm.w (lo := 117) (hi := 118) (a := 117) (M := wI M48 31 0 (nI 0)) (k := 1) (x := nI 0) (by omega) (by omega)).fr (by decide))
    refine wp_bipush (pc := 65) (x := nI 10) dX8_ordain_65 bp_10 ?_
    refine wp_aload_n (pc := 67) dX8_ordain_67 rfl ?_
    refine wf_getR (pc := 68) dX8_ordain_68 fl_X8_27 lk_0 (HR 0 3 14 rfl) ?_
    refine wf_getI (pc := 71) dX8_ordain_71 fl_X8_90 IL_14.1 ?_
    rw [H.l.1]
    refine wp_imul (pc := 74) dX8_ordain_74 ?_
    refine wp_aload_n (pc := 75) dX8_ordain_75 rfl ?_
    refine wf_getR (pc := 76) dX8_ordain_76 fl_X8_27 lk_0 (HR 0 3 14 rfl) ?_
    refine wf_getI (pc := 79) dX8_ordain_79 fl_X8_93 IL_14.1 ?_
    rw [H.l.2.1]
    refine wp_iadd (pc := 82) dX8_ordain_82 ?_
    refine wp_top (nI (10 * lD σ.2.2.2.1 + lM σ.2.2.2.1)) (by rw [show nI 10 * nI (lD σ.2.2.2.1) = nI (10 * lD σ.2.2.2.1) from pk_mul _ _, nI_add]) ?_
    refine wf_iret (pc := 83) dX8_ordain_83 rfl ?_
    exact ⟨F, _, _, q12.2, Or.inr ⟨σ0, σ, h0, e1, e3, hO, h17, rfl, H⟩⟩
  · refine wp_bipush (pc := 20) (x := (-3)) dX8_ordain_20 bp_m3 ?_
    refine wf_iret (pc := 22) dX8_ordain_22 rfl ?_
    exact ⟨F, _, _, q12.2, Or.inl ⟨h17, rfl, H⟩⟩
