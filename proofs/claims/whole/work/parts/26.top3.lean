theorem in_n {x : Int32} {n : Nat} (h1 : ¬ x < 0) (h2 : x < nI n) : inD x n = true := by
  simp only [inD, Bool.and_eq_true, Bool.not_eq_true', decide_eq_false_iff_not]
  exact ⟨h1, Int32.not_le.mpr h2⟩
theorem in_n1 {x : Int32} {n : Nat} (h1 : x < 0) : ¬ inD x n = true := by simp [inD, h1]
theorem in_n2 {x : Int32} {n : Nat} (h2 : ¬ x < nI n) : ¬ inD x n = true := by simp [inD, Int32.not_lt.mp h2]
theorem in_n3 {x : Int32} {n : Nat} (h2 : nI n ≤ x) : ¬ inD x n = true := by simp [inD, h2]
theorem in_n4 {x : Int32} {n : Nat} (h1 : ¬ x < 0) (h2 : ¬ nI n ≤ x) : inD x n = true := by simp [inD, h1, h2]
theorem OkP.kp {Λ : Lw} {P : Pg} {h : Nat} (H : OkP Λ P h) : KpP Λ P := fun m hm => (H.2.2.1 m hm).1
theorem XI.back {M M' : Mm} {s : Sv} {P : Pg} {c : Nat} {A : Nat → Pg} (h : Nat) (H : XI M s) (q : ∀ a, (a < 19 ∨ 25 ≤ a) → a ≠ 31 → ∀ k, M'.1 a k = M.1 a k) (r : Ra M M') (ha : XA M' s.Λ c A) (hp : XT M' 19 s.Λ P) : XI M' ((s.acts c A).town P h) := by
  have q : Si 19 32 M M' := fun a ha k => q a (by omega) (by omega) k
  refine ⟨r.rs H.r, H.t.si q (by omega), H.l.si q (by omega), hp, ha, H.k.si q (by omega), H.s.si q (by omega), ?_, by rw [r.1]; exact H.e⟩
  obtain ⟨re, rn, h⟩ := H.h
  exact ⟨re, rn, h.ra r⟩
theorem XA.zero {M : Mm} {Λ : Lw} {c : Nat} {A : Nat → Pg} (h : XA M Λ c A) : XA (wI M 31 0 (nI 0)) Λ 0 A := by
  obtain ⟨h1, h2, π, h3, h4, h5, h6⟩ := h
  exact ⟨by omega, wI_at _ _ _ _, π, h3, h4, h5, fun i hi => absurd hi (Nat.not_lt_zero _)⟩
/-- the hour of a page -/
def hr (P : Pg) : Nat := (P 24).toNatClampNeg
theorem OkP.hr {Λ : Lw} {P : Pg} {h : Nat} (H : OkP Λ P h) (hh : h < 2 ^ 31) : hr P = h := by
  show (P 24).toNatClampNeg = h
  rw [H.1, nI_cl hh]
/-- what an act leaves behind -/
abbrev sRem (s : Sv) : Sv := s.acts (nAc s.c) (nA s.c s.A s.P)
def sLead (s : Sv) (d v : Nat) : Int32 × Sv := (goP s.Λ s.P d v d, (sRem s).town (goP s.Λ s.P d v) s.h)
def oLead (s : Sv) (y x : Int32) : Int32 × Sv := if inD y (lD s.Λ) = true then (if x = nI 1 then sLead s y.toNatClampNeg 1 else if x = nI 2 then sLead s y.toNatClampNeg 2 else (-2, s)) else (-1, s)
def sLeash (s : Sv) (m : Nat) : Int32 × Sv := (nI (if bat (s.P 18 ^^^ bit m) m = nI 1 then 1 else 0), (sRem s).town (upd s.P 18 (s.P 18 ^^^ bit m)) s.h)
def oLeashN (s : Sv) (m : Nat) : Int32 × Sv := if s.P (8 + m) = no9 ∨ 0 < s.P (19 + m) then (-3, s) else sLeash s m
def oLeash (s : Sv) (y : Int32) : Int32 × Sv := if inD y (lM s.Λ) = true then oLeashN s y.toNatClampNeg else (-1, s)
def sGive (s : Sv) (m d : Nat) : Int32 × Sv := (s.P (8 + m), (sRem s).town (upd s.P (8 + m) (nI d)) s.h)
def oGiveN (s : Sv) (m d : Nat) : Int32 × Sv := if 0 < s.P (19 + m) ∨ s.P (8 + m) = nI d ∨ ¬ s.P (13 + m) = s.P d then (-3, s) else if nI (pop5 (kepN s.P d (lM s.Λ))) < lRm s.Λ d then sGive s m d else (-4, s)
def oGive (s : Sv) (y x : Int32) : Int32 × Sv := if inD y (lM s.Λ) = true ∧ inD x (lD s.Λ) = true then oGiveN s y.toNatClampNeg x.toNatClampNeg else (-1, s)
def oHour (s : Sv) : Int32 × Sv := ((hourP s.Λ s.P s.h 0 (lLe s.Λ)).1, (sRem s).town (hourP s.Λ s.P s.h 0 (lLe s.Λ)).2 (s.h + 1))
def oUndo (s : Sv) : Int32 × Sv := if s.c = 0 then (-3, s) else (nI (s.c - 1), (s.acts (s.c - 1) s.A).town (s.A (s.c - 1)) (hr (s.A (s.c - 1))))
def oKeep (s : Sv) (x : Int32) : Int32 × Sv := if inD x 2 = true then (nI s.h, s.slots (putS s.S x.toNatClampNeg s.P)) else (-1, s)
def sAgain (s : Sv) : Option Pg → Int32 × Sv
  | some P => (P 24, (s.acts 0 s.A).town P (hr P))
  | none => (-3, s)
def oAgain (s : Sv) (x : Int32) : Int32 × Sv := if inD x 2 = true then sAgain s (s.S x.toNatClampNeg) else (-1, s)
def oSee (s : Sv) (y x t : Int32) : Int32 × Sv := if inD y (lM s.Λ) = true then (if inD x 5 = true ∧ inD t 12 = true then (if 6 ≤ s.σ.1 then (-4, s) else (nI (s.σ.1 + 1), s.seen (addS s.σ y.toNatClampNeg x.toNatClampNeg t.toNatClampNeg))) else (-2, s)) else (-1, s)
theorem c_lead {l : Launch} {K : CtxT} {M : Mm} {s : Sv} {B : Nat} (H : XI M s) (V : OkV B s) (hB : B ≤ 9999) {y x : Int32} : Ci l K 3 mX8_lead [.ref (K.1 + 0), .int y, .int x] M (fun r M' => r = (oLead s y x).1 ∧ XI M' (oLead s y x).2 ∧ Fr M M') := by
  refine ci_of (L := [some (.ref (K.1 + 0)), some (.int y), some (.int x)]) (by decide +kernel) (Nat.le_of_ble_eq_true rfl) rfl rfl (fun E => ?_)
  refine wp_aload_n (pc := 0) dX8_lead_0 rfl ?_
  refine wf_getR (pc := 1) dX8_lead_1 fl_X8_27 lk_0 (H.r 0 3 14 rfl) ?_
  refine wp_iload_n (pc := 4) dX8_lead_4 rfl ?_
  refine wf_callVi (pc := 5) dX8_lead_5 cl_X8_120 (c_hasDog IL_14 H.r V.l.N H.l) IL_14.1 rfl rfl rfl rfl (Nat.le_of_ble_eq_true rfl) (by decide) ⟨Nat.le_refl _, Nat.le_refl _⟩ (fun r5 M5 q5 => ?_)
  rw [q5.1, q5.2]
  refine wp_if_ne (pc := 8) 13 dX8_lead_8 (by decide) (fun h8 => ?_) (fun h8 => ?_)
  · have h8 := b2i_1 h8
    obtain ⟨d, hd, ed⟩ := inD_of (by assumption) (show lD s.Λ < 2 ^ 31 by have := V.l.N.1; omega)
    have hd4 : d < 4 := Nat.lt_of_lt_of_le hd V.l.N.1
    subst ed
    refine wp_iload_n (pc := 13) dX8_lead_13 rfl ?_
    refine wp_ic (pc := 14) (x := nI 1) dX8_lead_14 ic_1 ?_
    refine wp_icmp_eq (pc := 15) 26 dX8_lead_15 (by decide) (fun h15 => ?_) (fun h15 => ?_)
    · subst h15
      refine wp_aload_n (pc := 26) dX8_lead_26 rfl ?_
      refine wf_getR (pc := 27) dX8_lead_27 fl_X8_44 lk_0 (H.r 0 6 31 rfl) ?_
      refine wp_aload_n (pc := 30) dX8_lead_30 rfl ?_
      refine wf_getR (pc := 31) dX8_lead_31 fl_X8_34 lk_0 (H.r 0 4 19 rfl) ?_
      refine wf_callVv (pc := 34) dX8_lead_34 cl_X8_161 (c_remember H.r V.l.N H.a H.p) lk_31 rfl rfl rfl rfl (Nat.le_of_ble_eq_true rfl) (by decide) ⟨Nat.le_refl _, Nat.le_refl _⟩ (fun M34 q34 => ?_)
      have F : Fr M M34 := q34.2.1.fr q34.2.2.1 (by decide)
      have H := H.acts q34.2.1 q34.2.2 q34.1
      refine wp_aload_n (pc := 37) dX8_lead_37 rfl ?_
      refine wf_getR (pc := 38) dX8_lead_38 fl_X8_34 lk_0 (H.r 0 4 19 rfl) ?_
      refine wp_aload_n (pc := 41) dX8_lead_41 rfl ?_
      refine wf_getR (pc := 42) dX8_lead_42 fl_X8_27 lk_0 (H.r 0 3 14 rfl) ?_
      refine wp_iload_n (pc := 45) dX8_lead_45 rfl ?_
      refine wp_iload_n (pc := 46) dX8_lead_46 rfl ?_
      refine wf_callVv (pc := 47) dX8_lead_47 cl_X8_164 (c_goes IT_19 IL_14 H.r V.l.N H.l H.p (by omega) hd (by omega) (V.p.2.1 d hd)) IT_19.1 rfl rfl rfl rfl (Nat.le_of_ble_eq_true rfl) (by decide) ⟨Nat.le_refl _, Nat.le_refl _⟩ (fun M47 q47 => ?_)
      have F := F.tr (q47.2.fr (by decide))
      have H := H.town s.h q47.2 q47.1
      refine wp_aload_n (pc := 50) dX8_lead_50 rfl ?_
      refine wf_getR (pc := 51) dX8_lead_51 fl_X8_34 lk_0 (H.r 0 4 19 rfl) ?_
      refine wf_getR (pc := 54) dX8_lead_54 fl_X8_124 IT_19.1 (H.r 19 2 20 rfl) ?_
      refine wp_iload_n (pc := 57) dX8_lead_57 rfl ?_
      refine wf_iald (pc := 58) (j := d) dX8_lead_58 IT_19.2.1 rfl (by omega) ?_
      refine wf_iret (pc := 59) dX8_lead_59 rfl ?_
      unfold oLead; rw [if_pos h8, nI_cl (by omega)]; first | rw [if_pos rfl] | rw [if_neg (by decide), if_pos rfl]
      exact ⟨(H.p.2.2.1 d hd).1, H, F⟩
    · refine wp_iload_n (pc := 18) dX8_lead_18 rfl ?_
      refine wp_ic (pc := 19) (x := nI 2) dX8_lead_19 ic_2 ?_
      refine wp_icmp_eq (pc := 20) 26 dX8_lead_20 (by decide) (fun h20 => ?_) (fun h20 => ?_)
      · subst h20
        refine wp_aload_n (pc := 26) dX8_lead_26 rfl ?_
        refine wf_getR (pc := 27) dX8_lead_27 fl_X8_44 lk_0 (H.r 0 6 31 rfl) ?_
        refine wp_aload_n (pc := 30) dX8_lead_30 rfl ?_
        refine wf_getR (pc := 31) dX8_lead_31 fl_X8_34 lk_0 (H.r 0 4 19 rfl) ?_
        refine wf_callVv (pc := 34) dX8_lead_34 cl_X8_161 (c_remember H.r V.l.N H.a H.p) lk_31 rfl rfl rfl rfl (Nat.le_of_ble_eq_true rfl) (by decide) ⟨Nat.le_refl _, Nat.le_refl _⟩ (fun M34 q34 => ?_)
        have F : Fr M M34 := q34.2.1.fr q34.2.2.1 (by decide)
        have H := H.acts q34.2.1 q34.2.2 q34.1
        refine wp_aload_n (pc := 37) dX8_lead_37 rfl ?_
        refine wf_getR (pc := 38) dX8_lead_38 fl_X8_34 lk_0 (H.r 0 4 19 rfl) ?_
        refine wp_aload_n (pc := 41) dX8_lead_41 rfl ?_
        refine wf_getR (pc := 42) dX8_lead_42 fl_X8_27 lk_0 (H.r 0 3 14 rfl) ?_
        refine wp_iload_n (pc := 45) dX8_lead_45 rfl ?_
        refine wp_iload_n (pc := 46) dX8_lead_46 rfl ?_
        refine wf_callVv (pc := 47) dX8_lead_47 cl_X8_164 (c_goes IT_19 IL_14 H.r V.l.N H.l H.p (by omega) hd (by omega) (V.p.2.1 d hd)) IT_19.1 rfl rfl rfl rfl (Nat.le_of_ble_eq_true rfl) (by decide) ⟨Nat.le_refl _, Nat.le_refl _⟩ (fun M47 q47 => ?_)
        have F := F.tr (q47.2.fr (by decide))
        have H := H.town s.h q47.2 q47.1
        refine wp_aload_n (pc := 50) dX8_lead_50 rfl ?_
        refine wf_getR (pc := 51) dX8_lead_51 fl_X8_34 lk_0 (H.r 0 4 19 rfl) ?_
        refine wf_getR (pc := 54) dX8_lead_54 fl_X8_124 IT_19.1 (H.r 19 2 20 rfl) ?_
        refine wp_iload_n (pc := 57) dX8_lead_57 rfl ?_
        refine wf_iald (pc := 58) (j := d) dX8_lead_58 IT_19.2.1 rfl (by omega) ?_
        refine wf_iret (pc := 59) dX8_lead_59 rfl ?_
        unfold oLead; rw [if_pos h8, nI_cl (by omega)]; first | rw [if_pos rfl] | rw [if_neg (by decide), if_pos rfl]
        exact ⟨(H.p.2.2.1 d hd).1, H, F⟩
      · refine wp_bipush (pc := 23) (x := (-2)) dX8_lead_23 bp_m2 ?_
        refine wf_iret (pc := 25) dX8_lead_25 rfl ?_
        unfold oLead; rw [if_pos h8, if_neg h15, if_neg h20]
        exact ⟨rfl, H, Fr.rf⟩
  · have h8 := b2i_0 h8
    refine wp_ic (pc := 11) (x := (-1)) dX8_lead_11 ic_m1 ?_
    refine wf_iret (pc := 12) dX8_lead_12 rfl ?_
    unfold oLead; rw [if_neg (by rw [h8]; decide)]
    exact ⟨rfl, H, Fr.rf⟩
theorem c_leash {l : Launch} {K : CtxT} {M : Mm} {s : Sv} {B : Nat} (H : XI M s) (V : OkV B s) (hB : B ≤ 9999) {y : Int32} : Ci l K 3 mX8_leash [.ref (K.1 + 0), .int y] M (fun r M' => r = (oLeash s y).1 ∧ XI M' (oLeash s y).2 ∧ Fr M M') := by
  refine ci_of (L := [some (.ref (K.1 + 0)), some (.int y)]) (by decide +kernel) (Nat.le_of_ble_eq_true rfl) rfl rfl (fun E => ?_)
  refine wp_aload_n (pc := 0) dX8_leash_0 rfl ?_
  refine wf_getR (pc := 1) dX8_leash_1 fl_X8_27 lk_0 (H.r 0 3 14 rfl) ?_
  refine wp_iload_n (pc := 4) dX8_leash_4 rfl ?_
  refine wf_callVi (pc := 5) dX8_leash_5 cl_X8_143 (c_hasMan IL_14 H.r V.l.N H.l) IL_14.1 rfl rfl rfl rfl (Nat.le_of_ble_eq_true rfl) (by decide) ⟨Nat.le_refl _, Nat.le_refl _⟩ (fun r5 M5 q5 => ?_)
  rw [q5.1, q5.2]
  refine wp_if_ne (pc := 8) 13 dX8_leash_8 (by decide) (fun h8 => ?_) (fun h8 => ?_)
  · have h8 := b2i_1 h8
    obtain ⟨m, hm, em⟩ := inD_of (by assumption) (show lM s.Λ < 2 ^ 31 by have := V.l.N.2.1; omega)
    have hm4 : m < 5 := Nat.lt_of_lt_of_le hm V.l.N.2.1
    subst em
    refine wp_aload_n (pc := 13) dX8_leash_13 rfl ?_
    refine wf_getR (pc := 14) dX8_leash_14 fl_X8_34 lk_0 (H.r 0 4 19 rfl) ?_
    refine wf_getR (pc := 17) dX8_leash_17 fl_X8_146 IT_19.1 (H.r 19 4 22 rfl) ?_
    refine wp_iload_n (pc := 20) dX8_leash_20 rfl ?_
    refine wf_iald (pc := 21) (j := m) dX8_leash_21 IT_19.2.2.2.1 rfl (by omega) ?_
    rw [(H.p.2.2.2 m hm).1]
    refine wp_bipush (pc := 22) (x := (-9)) dX8_leash_22 bp_m9 ?_
    refine wp_icmp_eq (pc := 24) 38 dX8_leash_24 (by decide) (fun h24 => ?_) (fun h24 => ?_)
    · refine wp_bipush (pc := 38) (x := (-3)) dX8_leash_38 bp_m3 ?_
      refine wf_iret (pc := 40) dX8_leash_40 rfl ?_
      unfold oLeash oLeashN; rw [if_pos h8, nI_cl (by omega), if_pos (by first | exact Or.inl h24 | exact Or.inr (of_decide_eq_true h35))]
      exact ⟨rfl, H, Fr.rf⟩
    · refine wp_aload_n (pc := 27) dX8_leash_27 rfl ?_
      refine wf_getR (pc := 28) dX8_leash_28 fl_X8_34 lk_0 (H.r 0 4 19 rfl) ?_
      refine wp_iload_n (pc := 31) dX8_leash_31 rfl ?_
      refine wf_callVi (pc := 32) dX8_leash_32 cl_X8_168 (c_isImpounded IT_19 H.r H.p hm hm4) IT_19.1 rfl rfl rfl rfl (Nat.le_of_ble_eq_true rfl) (by decide) ⟨Nat.le_refl _, Nat.le_refl _⟩ (fun r32 M32 q32 => ?_)
      rw [q32.1, q32.2]
      refine wp_if_eq (pc := 35) 41 dX8_leash_35 (by decide) (fun h35 => ?_) (fun h35 => ?_)
      · have h35 := b2i_0 h35
        refine wp_aload_n (pc := 41) dX8_leash_41 rfl ?_
        refine wf_getR (pc := 42) dX8_leash_42 fl_X8_44 lk_0 (H.r 0 6 31 rfl) ?_
        refine wp_aload_n (pc := 45) dX8_leash_45 rfl ?_
        refine wf_getR (pc := 46) dX8_leash_46 fl_X8_34 lk_0 (H.r 0 4 19 rfl) ?_
        refine wf_callVv (pc := 49) dX8_leash_49 cl_X8_161 (c_remember H.r V.l.N H.a H.p) lk_31 rfl rfl rfl rfl (Nat.le_of_ble_eq_true rfl) (by decide) ⟨Nat.le_refl _, Nat.le_refl _⟩ (fun M49 q49 => ?_)
        have F : Fr M M49 := q49.2.1.fr q49.2.2.1 (by decide)
        have H := H.acts q49.2.1 q49.2.2 q49.1
        refine wp_aload_n (pc := 52) dX8_leash_52 rfl ?_
        refine wf_getR (pc := 53) dX8_leash_53 fl_X8_34 lk_0 (H.r 0 4 19 rfl) ?_
        refine wp_dup (pc := 56) dX8_leash_56 rfl ?_
        refine wf_getI (pc := 57) dX8_leash_57 fl_X8_106 IT_19.1 ?_
        rw [H.p.2.1]
        refine wp_ic (pc := 60) (x := nI 1) dX8_leash_60 ic_1 ?_
        refine wp_iload_n (pc := 61) dX8_leash_61 rfl ?_
        refine wp_ishl (pc := 62) dX8_leash_62 ?_
        refine wp_ixor (pc := 63) dX8_leash_63 ?_
        refine wf_putI (pc := 64) dX8_leash_64 fl_X8_106 IT_19.1 ?_
        have q67 : Sm 19 25 M49 (wI M49 19 1 (s.P 18 ^^^ bit m)) := Sm.w (by omega) (by omega)
        have F := F.tr (q67.fr (by decide))
        have H := H.town s.h q67 (H.p.leash ⟨V.l.1, V.l.2.1⟩ _)
        refine wp_aload_n (pc := 67) dX8_leash_67 rfl ?_
        refine wf_getR (pc := 68) dX8_leash_68 fl_X8_34 lk_0 (H.r 0 4 19 rfl) ?_
        refine wp_iload_n (pc := 71) dX8_leash_71 rfl ?_
        refine wf_callVi (pc := 72) dX8_leash_72 cl_X8_155 (c_isLeashed IT_19 H.p) IT_19.1 rfl rfl rfl rfl (Nat.le_of_ble_eq_true rfl) (by decide) ⟨Nat.le_refl _, Nat.le_refl _⟩ (fun r72 M72 q72 => ?_)
        rw [q72.1, q72.2]
        refine wp_if_eq (pc := 75) 82 dX8_leash_75 (by decide) (fun h75 => ?_) (fun h75 => ?_)
        · have h75 := b2i_0 h75
          refine wp_ic (pc := 82) (x := nI 0) dX8_leash_82 ic_0 ?_
          refine wf_iret (pc := 83) dX8_leash_83 rfl ?_
          unfold oLeash oLeashN; rw [if_pos h8, nI_cl (by omega), if_neg (by rintro (q | q); exact h24 q; exact of_decide_eq_false h35 q)]
          refine ⟨?_, H, F⟩
          show _ = nI (if bat (s.P 18 ^^^ bit m) m = nI 1 then 1 else 0)
          first | (rw [if_pos (show bat (s.P 18 ^^^ bit m) m = nI 1 from of_decide_eq_true h75)]; done) | (rw [if_neg (show ¬ bat (s.P 18 ^^^ bit m) m = nI 1 from of_decide_eq_false h75)]; done)
        · have h75 := b2i_1 h75
          refine wp_ic (pc := 78) (x := nI 1) dX8_leash_78 ic_1 ?_
          refine wp_goto (pc := 79) 83 dX8_leash_79 (by decide) ?_
          refine wf_iret (pc := 83) dX8_leash_83 rfl ?_
          unfold oLeash oLeashN; rw [if_pos h8, nI_cl (by omega), if_neg (by rintro (q | q); exact h24 q; exact of_decide_eq_false h35 q)]
          refine ⟨?_, H, F⟩
          show _ = nI (if bat (s.P 18 ^^^ bit m) m = nI 1 then 1 else 0)
          first | (rw [if_pos (show bat (s.P 18 ^^^ bit m) m = nI 1 from of_decide_eq_true h75)]; done) | (rw [if_neg (show ¬ bat (s.P 18 ^^^ bit m) m = nI 1 from of_decide_eq_false h75)]; done)
      · have h35 := b2i_1 h35
        refine wp_bipush (pc := 38) (x := (-3)) dX8_leash_38 bp_m3 ?_
        refine wf_iret (pc := 40) dX8_leash_40 rfl ?_
        unfold oLeash oLeashN; rw [if_pos h8, nI_cl (by omega), if_pos (by first | exact Or.inl h24 | exact Or.inr (of_decide_eq_true h35))]
        exact ⟨rfl, H, Fr.rf⟩
  · have h8 := b2i_0 h8
    refine wp_ic (pc := 11) (x := (-1)) dX8_leash_11 ic_m1 ?_
    refine wf_iret (pc := 12) dX8_leash_12 rfl ?_
    unfold oLeash; rw [if_neg (by rw [h8]; decide)]
    exact ⟨rfl, H, Fr.rf⟩
theorem c_give {l : Launch} {K : CtxT} {M : Mm} {s : Sv} {B : Nat} (H : XI M s) (V : OkV B s) (hB : B ≤ 9999) {y x : Int32} : Ci l K 3 mX8_give [.ref (K.1 + 0), .int y, .int x] M (fun r M' => r = (oGive s y x).1 ∧ XI M' (oGive s y x).2 ∧ Fr M M') := by
  refine ci_of (L := [some (.ref (K.1 + 0)), some (.int y), some (.int x), none]) (by decide +kernel) (Nat.le_of_ble_eq_true rfl) rfl rfl (fun E => ?_)
  refine wp_aload_n (pc := 0) dX8_give_0 rfl ?_
  refine wf_getR (pc := 1) dX8_give_1 fl_X8_27 lk_0 (H.r 0 3 14 rfl) ?_
  refine wp_iload_n (pc := 4) dX8_give_4 rfl ?_
  refine wf_callVi (pc := 5) dX8_give_5 cl_X8_143 (c_hasMan IL_14 H.r V.l.N H.l) IL_14.1 rfl rfl rfl rfl (Nat.le_of_ble_eq_true rfl) (by decide) ⟨Nat.le_refl _, Nat.le_refl _⟩ (fun r5 M5 q5 => ?_)
  rw [q5.1, q5.2]
  refine wp_if_eq (pc := 8) 22 dX8_give_8 (by decide) (fun h8 => ?_) (fun h8 => ?_)
  · have h8 := b2i_0 h8
    refine wp_ic (pc := 22) (x := (-1)) dX8_give_22 ic_m1 ?_
    refine wf_iret (pc := 23) dX8_give_23 rfl ?_
    unfold oGive; rw [if_neg (by rintro ⟨q1, q2⟩; first | (rw [h8] at q1; cases q1; done) | (rw [h19] at q2; cases q2; done))]
    exact ⟨rfl, H, Fr.rf⟩
  · have h8 := b2i_1 h8
    obtain ⟨m, hm, em⟩ := inD_of (by assumption) (show lM s.Λ < 2 ^ 31 by have := V.l.N.2.1; omega)
    have hm4 : m < 5 := Nat.lt_of_lt_of_le hm V.l.N.2.1
    subst em
    refine wp_aload_n (pc := 11) dX8_give_11 rfl ?_
    refine wf_getR (pc := 12) dX8_give_12 fl_X8_27 lk_0 (H.r 0 3 14 rfl) ?_
    refine wp_iload_n (pc := 15) dX8_give_15 rfl ?_
    refine wf_callVi (pc := 16) dX8_give_16 cl_X8_120 (c_hasDog IL_14 H.r V.l.N H.l) IL_14.1 rfl rfl rfl rfl (Nat.le_of_ble_eq_true rfl) (by decide) ⟨Nat.le_refl _, Nat.le_refl _⟩ (fun r16 M16 q16 => ?_)
    rw [q16.1, q16.2]
    refine wp_if_ne (pc := 19) 24 dX8_give_19 (by decide) (fun h19 => ?_) (fun h19 => ?_)
    · have h19 := b2i_1 h19
      obtain ⟨d, hd, ed⟩ := inD_of (by assumption) (show lD s.Λ < 2 ^ 31 by have := V.l.N.1; omega)
      have hd4 : d < 4 := Nat.lt_of_lt_of_le hd V.l.N.1
      subst ed
      refine wp_aload_n (pc := 24) dX8_give_24 rfl ?_
      refine wf_getR (pc := 25) dX8_give_25 fl_X8_34 lk_0 (H.r 0 4 19 rfl) ?_
      refine wf_getR (pc := 28) dX8_give_28 fl_X8_146 IT_19.1 (H.r 19 4 22 rfl) ?_
      refine wp_iload_n (pc := 31) dX8_give_31 rfl ?_
      refine wf_iald (pc := 32) (j := m) dX8_give_32 IT_19.2.2.2.1 rfl (by omega) ?_
      rw [(H.p.2.2.2 m hm).1]
      refine wp_istore_n (pc := 33) (L' := [_, _, _, _]) dX8_give_33 (Nat.le_of_ble_eq_true rfl) rfl rfl ?_
      refine wp_aload_n (pc := 34) dX8_give_34 rfl ?_
      refine wf_getR (pc := 35) dX8_give_35 fl_X8_34 lk_0 (H.r 0 4 19 rfl) ?_
      refine wp_iload_n (pc := 38) dX8_give_38 rfl ?_
      refine wf_callVi (pc := 39) dX8_give_39 cl_X8_168 (c_isImpounded IT_19 H.r H.p hm hm4) IT_19.1 rfl rfl rfl rfl (Nat.le_of_ble_eq_true rfl) (by decide) ⟨Nat.le_refl _, Nat.le_refl _⟩ (fun r39 M39 q39 => ?_)
      rw [q39.1, q39.2]
      refine wp_if_ne (pc := 42) 71 dX8_give_42 (by decide) (fun h42 => ?_) (fun h42 => ?_)
      · have h42 := b2i_1 h42
        refine wp_bipush (pc := 71) (x := (-3)) dX8_give_71 bp_m3 ?_
        refine wf_iret (pc := 73) dX8_give_73 rfl ?_
        unfold oGive oGiveN; rw [if_pos ⟨h8, h19⟩, nI_cl (by omega), nI_cl (by omega), if_pos (by first | exact Or.inl (of_decide_eq_true h42) | exact Or.inr (Or.inl h47) | exact Or.inr (Or.inr h68))]
        exact ⟨rfl, H, Fr.rf⟩
      · have h42 := b2i_0 h42
        refine wp_iload_n (pc := 45) dX8_give_45 rfl ?_
        refine wp_iload_n (pc := 46) dX8_give_46 rfl ?_
        refine wp_icmp_eq (pc := 47) 71 dX8_give_47 (by decide) (fun h47 => ?_) (fun h47 => ?_)
        · refine wp_bipush (pc := 71) (x := (-3)) dX8_give_71 bp_m3 ?_
          refine wf_iret (pc := 73) dX8_give_73 rfl ?_
          unfold oGive oGiveN; rw [if_pos ⟨h8, h19⟩, nI_cl (by omega), nI_cl (by omega), if_pos (by first | exact Or.inl (of_decide_eq_true h42) | exact Or.inr (Or.inl h47) | exact Or.inr (Or.inr h68))]
          exact ⟨rfl, H, Fr.rf⟩
        · refine wp_aload_n (pc := 50) dX8_give_50 rfl ?_
          refine wf_getR (pc := 51) dX8_give_51 fl_X8_34 lk_0 (H.r 0 4 19 rfl) ?_
          refine wf_getR (pc := 54) dX8_give_54 fl_X8_149 IT_19.1 (H.r 19 5 23 rfl) ?_
          refine wp_iload_n (pc := 57) dX8_give_57 rfl ?_
          refine wf_iald (pc := 58) (j := m) dX8_give_58 IT_19.2.2.2.2.1 rfl (by omega) ?_
          rw [(H.p.2.2.2 m hm).2.1]
          refine wp_aload_n (pc := 59) dX8_give_59 rfl ?_
          refine wf_getR (pc := 60) dX8_give_60 fl_X8_34 lk_0 (H.r 0 4 19 rfl) ?_
          refine wf_getR (pc := 63) dX8_give_63 fl_X8_124 IT_19.1 (H.r 19 2 20 rfl) ?_
          refine wp_iload_n (pc := 66) dX8_give_66 rfl ?_
          refine wf_iald (pc := 67) (j := d) dX8_give_67 IT_19.2.1 rfl (by omega) ?_
          rw [(H.p.2.2.1 d hd).1]
          refine wp_icmp_eq (pc := 68) 74 dX8_give_68 (by decide) (fun h68 => ?_) (fun h68 => ?_)
          · refine wp_aload_n (pc := 74) dX8_give_74 rfl ?_
            refine wf_getR (pc := 75) dX8_give_75 fl_X8_34 lk_0 (H.r 0 4 19 rfl) ?_
            refine wp_aload_n (pc := 78) dX8_give_78 rfl ?_
            refine wf_getR (pc := 79) dX8_give_79 fl_X8_27 lk_0 (H.r 0 3 14 rfl) ?_
            refine wp_iload_n (pc := 82) dX8_give_82 rfl ?_
            refine wf_callVi (pc := 83) dX8_give_83 cl_X8_171 (c_hasRoom IT_19 IL_14 H.r V.l.N H.l H.p hd) IT_19.1 rfl rfl rfl rfl (Nat.le_of_ble_eq_true rfl) (by decide) ⟨Nat.le_refl _, Nat.le_refl _⟩ (fun r83 M83 q83 => ?_)
            rw [q83.1, q83.2]
            refine wp_if_ne (pc := 86) 92 dX8_give_86 (by decide) (fun h86 => ?_) (fun h86 => ?_)
            · have h86 := b2i_1 h86
              refine wp_aload_n (pc := 92) dX8_give_92 rfl ?_
              refine wf_getR (pc := 93) dX8_give_93 fl_X8_44 lk_0 (H.r 0 6 31 rfl) ?_
              refine wp_aload_n (pc := 96) dX8_give_96 rfl ?_
              refine wf_getR (pc := 97) dX8_give_97 fl_X8_34 lk_0 (H.r 0 4 19 rfl) ?_
              refine wf_callVv (pc := 100) dX8_give_100 cl_X8_161 (c_remember H.r V.l.N H.a H.p) lk_31 rfl rfl rfl rfl (Nat.le_of_ble_eq_true rfl) (by decide) ⟨Nat.le_refl _, Nat.le_refl _⟩ (fun M100 q100 => ?_)
              have F : Fr M M100 := q100.2.1.fr q100.2.2.1 (by decide)
              have H := H.acts q100.2.1 q100.2.2 q100.1
              refine wp_aload_n (pc := 103) dX8_give_103 rfl ?_
              refine wf_getR (pc := 104) dX8_give_104 fl_X8_34 lk_0 (H.r 0 4 19 rfl) ?_
              refine wf_getR (pc := 107) dX8_give_107 fl_X8_146 IT_19.1 (H.r 19 4 22 rfl) ?_
              refine wp_iload_n (pc := 110) dX8_give_110 rfl ?_
              refine wp_iload_n (pc := 111) dX8_give_111 rfl ?_
              refine wf_iast (pc := 112) (j := m) dX8_give_112 IT_19.2.2.2.1 rfl (by omega) ?_
              have q113 : Sm 19 25 M100 (wI M100 22 m (nI d)) := Sm.w (by omega) (by omega)
              have F := F.tr (q113.fr (by decide))
              have H := H.town s.h q113 (H.p.keeper ⟨V.l.1, V.l.2.1⟩ hm4 _)
              refine wp_iload_n (pc := 113) dX8_give_113 rfl ?_
              refine wf_iret (pc := 114) dX8_give_114 rfl ?_
              unfold oGive oGiveN; rw [if_pos ⟨h8, h19⟩, nI_cl (by omega), nI_cl (by omega), if_neg (by rintro (q | q | q); exact of_decide_eq_false h42 q; exact h47 q; exact q h68), if_pos (of_decide_eq_true h86)]
              exact ⟨rfl, H, F⟩
            · have h86 := b2i_0 h86
              refine wp_bipush (pc := 89) (x := (-4)) dX8_give_89 bp_m4 ?_
              refine wf_iret (pc := 91) dX8_give_91 rfl ?_
              unfold oGive oGiveN; rw [if_pos ⟨h8, h19⟩, nI_cl (by omega), nI_cl (by omega), if_neg (by rintro (q | q | q); exact of_decide_eq_false h42 q; exact h47 q; exact q h68), if_neg (of_decide_eq_false h86)]
              exact ⟨rfl, H, Fr.rf⟩
          · refine wp_bipush (pc := 71) (x := (-3)) dX8_give_71 bp_m3 ?_
            refine wf_iret (pc := 73) dX8_give_73 rfl ?_
            unfold oGive oGiveN; rw [if_pos ⟨h8, h19⟩, nI_cl (by omega), nI_cl (by omega), if_pos (by first | exact Or.inl (of_decide_eq_true h42) | exact Or.inr (Or.inl h47) | exact Or.inr (Or.inr h68))]
            exact ⟨rfl, H, Fr.rf⟩
    · have h19 := b2i_0 h19
      refine wp_ic (pc := 22) (x := (-1)) dX8_give_22 ic_m1 ?_
      refine wf_iret (pc := 23) dX8_give_23 rfl ?_
      unfold oGive; rw [if_neg (by rintro ⟨q1, q2⟩; first | (rw [h8] at q1; cases q1; done) | (rw [h19] at q2; cases q2; done))]
      exact ⟨rfl, H, Fr.rf⟩
theorem c_hour {l : Launch} {K : CtxT} {M : Mm} {s : Sv} {B : Nat} (H : XI M s) (V : OkV B s) (hB : B ≤ 9999) : Ci l K 4 mX8_hour [.ref (K.1 + 0)] M (fun r M' => r = (oHour s).1 ∧ XI M' (oHour s).2 ∧ Fr M M') := by
  refine ci_of (L := [some (.ref (K.1 + 0))]) (by decide +kernel) (Nat.le_of_ble_eq_true rfl) rfl rfl (fun E => ?_)
  refine wp_aload_n (pc := 0) dX8_hour_0 rfl ?_
  refine wf_getR (pc := 1) dX8_hour_1 fl_X8_44 lk_0 (H.r 0 6 31 rfl) ?_
  refine wp_aload_n (pc := 4) dX8_hour_4 rfl ?_
  refine wf_getR (pc := 5) dX8_hour_5 fl_X8_34 lk_0 (H.r 0 4 19 rfl) ?_
  refine wf_callVv (pc := 8) dX8_hour_8 cl_X8_161 (c_remember H.r V.l.N H.a H.p) lk_31 rfl rfl rfl rfl (Nat.le_of_ble_eq_true rfl) (by decide) ⟨Nat.le_refl _, Nat.le_refl _⟩ (fun M8 q8 => ?_)
  have F : Fr M M8 := q8.2.1.fr q8.2.2.1 (by decide)
  have H := H.acts q8.2.1 q8.2.2 q8.1
  refine wp_aload_n (pc := 11) dX8_hour_11 rfl ?_
  refine wf_getR (pc := 12) dX8_hour_12 fl_X8_34 lk_0 (H.r 0 4 19 rfl) ?_
  refine wp_aload_n (pc := 15) dX8_hour_15 rfl ?_
  refine wf_getR (pc := 16) dX8_hour_16 fl_X8_27 lk_0 (H.r 0 3 14 rfl) ?_
  refine wp_aload_n (pc := 19) dX8_hour_19 rfl ?_
  refine wf_getR (pc := 20) dX8_hour_20 fl_X8_27 lk_0 (H.r 0 3 14 rfl) ?_
  refine wf_getI (pc := 23) dX8_hour_23 fl_X8_96 IL_14.1 ?_
  rw [H.l.2.2.1]
  refine wp_ic (pc := 26) (x := nI 0) dX8_hour_26 ic_0 ?_
  refine wf_callVi (pc := 27) dX8_hour_27 cl_X8_175 (c_passHour IT_19 IL_14 H.r V.l.N H.l H.p V.p.kp (by omega) V.p.1 (by have := V.h; omega)) IT_19.1 rfl rfl rfl rfl (Nat.le_of_ble_eq_true rfl) (by decide) ⟨Nat.le_refl _, Nat.le_refl _⟩ (fun r27 M27 q27 => ?_)
  have F := F.tr (q27.2.2.fr (by decide))
  have H := H.town (s.h + 1) q27.2.2 q27.2.1
  refine wf_iret (pc := 30) dX8_hour_30 rfl ?_
  exact ⟨q27.1, H, F⟩
theorem c_undo {l : Launch} {K : CtxT} {M : Mm} {s : Sv} {B : Nat} (H : XI M s) (V : OkV B s) (hB : B ≤ 9999) : Ci l K 3 mX8_undo [.ref (K.1 + 0)] M (fun r M' => r = (oUndo s).1 ∧ XI M' (oUndo s).2 ∧ Fr M M') := by
  refine ci_of (L := [some (.ref (K.1 + 0))]) (by decide +kernel) (Nat.le_of_ble_eq_true rfl) rfl rfl (fun E => ?_)
  refine wp_aload_n (pc := 0) dX8_undo_0 rfl ?_
  refine wf_getR (pc := 1) dX8_undo_1 fl_X8_44 lk_0 (H.r 0 6 31 rfl) ?_
  refine wf_getI (pc := 4) dX8_undo_4 fl_X8_116 lk_31 ?_
  rw [H.a.2.1]
  refine wp_if_ne (pc := 7) 13 dX8_undo_7 (by decide) (fun h7 => ?_) (fun h7 => ?_)
  · have e : ¬ s.c = 0 := fun q => h7 (by rw [q]; rfl)
    refine wp_aload_n (pc := 13) dX8_undo_13 rfl ?_
    refine wf_getR (pc := 14) dX8_undo_14 fl_X8_44 lk_0 (H.r 0 6 31 rfl) ?_
    refine wp_aload_n (pc := 17) dX8_undo_17 rfl ?_
    refine wf_getR (pc := 18) dX8_undo_18 fl_X8_34 lk_0 (H.r 0 4 19 rfl) ?_
    refine wf_callVv (pc := 21) dX8_undo_21 cl_X8_179 (c_takeBack H.r V.l.N H.a (by omega)) lk_31 rfl rfl rfl rfl (Nat.le_of_ble_eq_true rfl) (by decide) ⟨Nat.le_refl _, Nat.le_refl _⟩ (fun M21 q21 => ?_)
    have F : Fr M M21 := fun a ha k => ⟨q21.2.2.1 a (by omega) (by omega) k, by rw [q21.2.2.2.1]⟩
    have H := H.back (hr (s.A (s.c - 1))) q21.2.2.1 q21.2.2.2 q21.1 q21.2.1
    refine wp_aload_n (pc := 24) dX8_undo_24 rfl ?_
    refine wf_getR (pc := 25) dX8_undo_25 fl_X8_44 lk_0 (H.r 0 6 31 rfl) ?_
    refine wf_getI (pc := 28) dX8_undo_28 fl_X8_116 lk_31 ?_
    rw [H.a.2.1]
    refine wf_iret (pc := 31) dX8_undo_31 rfl ?_
    unfold oUndo; rw [if_neg e]
    exact ⟨rfl, H, F⟩
  · have e : s.c = 0 := (nI_eq (by have := V.c; omega) (by decide)).mp h7
    refine wp_bipush (pc := 10) (x := (-3)) dX8_undo_10 bp_m3 ?_
    refine wf_iret (pc := 12) dX8_undo_12 rfl ?_
    unfold oUndo; rw [if_pos e]
    exact ⟨rfl, H, Fr.rf⟩
theorem c_keep {l : Launch} {K : CtxT} {M : Mm} {s : Sv} {B : Nat} (H : XI M s) (V : OkV B s) (hB : B ≤ 9999) {x : Int32} : Ci l K 3 mX8_keep [.ref (K.1 + 0), .int x] M (fun r M' => r = (oKeep s x).1 ∧ XI M' (oKeep s x).2 ∧ Fr M M') := by
  refine ci_of (L := [some (.ref (K.1 + 0)), some (.int x)]) (by decide +kernel) (Nat.le_of_ble_eq_true rfl) rfl rfl (fun E => ?_)
  refine wp_iload_n (pc := 0) dX8_keep_0 rfl ?_
  refine wp_if_lt (pc := 1) 9 dX8_keep_1 (by decide) (fun h1 => ?_) (fun h1 => ?_)
  · have e : ¬ inD x 2 = true := in_n1 h1
    refine wp_ic (pc := 9) (x := (-1)) dX8_keep_9 ic_m1 ?_
    refine wf_iret (pc := 10) dX8_keep_10 rfl ?_
    unfold oKeep; rw [if_neg e]
    exact ⟨rfl, H, Fr.rf⟩
  · refine wp_iload_n (pc := 4) dX8_keep_4 rfl ?_
    refine wp_ic (pc := 5) (x := nI 2) dX8_keep_5 ic_2 ?_
    refine wp_icmp_lt (pc := 6) 11 dX8_keep_6 (by decide) (fun h6 => ?_) (fun h6 => ?_)
    · have e : inD x 2 = true := in_n h1 h6
      obtain ⟨k, hk, ek⟩ := inD_of e (by decide)
      subst ek
      refine wp_aload_n (pc := 11) dX8_keep_11 rfl ?_
      refine wf_getR (pc := 12) dX8_keep_12 fl_X8_51 lk_0 (H.r 0 7 117 rfl) ?_
      refine wp_iload_n (pc := 15) dX8_keep_15 rfl ?_
      refine wp_aload_n (pc := 16) dX8_keep_16 rfl ?_
      refine wf_getR (pc := 17) dX8_keep_17 fl_X8_34 lk_0 (H.r 0 4 19 rfl) ?_
      refine wf_callVv (pc := 20) dX8_keep_20 cl_X8_244 (c_put H.r V.l.N H.k H.p hk) lk_117 rfl rfl rfl rfl (Nat.le_of_ble_eq_true rfl) (by decide) ⟨Nat.le_refl _, Nat.le_refl _⟩ (fun M20 q20 => ?_)
      have F : Fr M M20 := q20.2.fr (by decide)
      have H := H.slots q20.2 q20.1
      refine wp_aload_n (pc := 23) dX8_keep_23 rfl ?_
      refine wf_getR (pc := 24) dX8_keep_24 fl_X8_34 lk_0 (H.r 0 4 19 rfl) ?_
      refine wf_getI (pc := 27) dX8_keep_27 fl_X8_99 IT_19.1 ?_
      rw [show M20.1 19 0 = nI s.h from H.p.1.trans V.p.1]
      refine wf_iret (pc := 30) dX8_keep_30 rfl ?_
      unfold oKeep; rw [if_pos e, nI_cl (by omega)]
      exact ⟨rfl, H, F⟩
    · have e : ¬ inD x 2 = true := in_n2 h6
      refine wp_ic (pc := 9) (x := (-1)) dX8_keep_9 ic_m1 ?_
      refine wf_iret (pc := 10) dX8_keep_10 rfl ?_
      unfold oKeep; rw [if_neg e]
      exact ⟨rfl, H, Fr.rf⟩
theorem c_again {l : Launch} {K : CtxT} {M : Mm} {s : Sv} {B : Nat} (H : XI M s) (V : OkV B s) (hB : B ≤ 9999) {x : Int32} : Ci l K 3 mX8_again [.ref (K.1 + 0), .int x] M (fun r M' => r = (oAgain s x).1 ∧ XI M' (oAgain s x).2 ∧ Fr M M') := by
  refine ci_of (L := [some (.ref (K.1 + 0)), some (.int x)]) (by decide +kernel) (Nat.le_of_ble_eq_true rfl) rfl rfl (fun E => ?_)
  refine wp_iload_n (pc := 0) dX8_again_0 rfl ?_
  refine wp_if_lt (pc := 1) 9 dX8_again_1 (by decide) (fun h1 => ?_) (fun h1 => ?_)
  · have e : ¬ inD x 2 = true := in_n1 h1
    refine wp_ic (pc := 9) (x := (-1)) dX8_again_9 ic_m1 ?_
    refine wf_iret (pc := 10) dX8_again_10 rfl ?_
    unfold oAgain; rw [if_neg e]
    exact ⟨rfl, H, Fr.rf⟩
  · refine wp_iload_n (pc := 4) dX8_again_4 rfl ?_
    refine wp_ic (pc := 5) (x := nI 2) dX8_again_5 ic_2 ?_
    refine wp_icmp_lt (pc := 6) 11 dX8_again_6 (by decide) (fun h6 => ?_) (fun h6 => ?_)
    · have e : inD x 2 = true := in_n h1 h6
      obtain ⟨k, hk, ek⟩ := inD_of e (by decide)
      subst ek
      refine wp_aload_n (pc := 11) dX8_again_11 rfl ?_
      refine wf_getR (pc := 12) dX8_again_12 fl_X8_51 lk_0 (H.r 0 7 117 rfl) ?_
      refine wp_iload_n (pc := 15) dX8_again_15 rfl ?_
      refine wf_callVi (pc := 16) dX8_again_16 cl_X8_248 (c_slot_holds H.r H.k hk) lk_117 rfl rfl rfl rfl (Nat.le_of_ble_eq_true rfl) (by decide) ⟨Nat.le_refl _, Nat.le_refl _⟩ (fun r16 M16 q16 => ?_)
      rw [q16.1, q16.2]
      refine wp_if_ne (pc := 19) 25 dX8_again_19 (by decide) (fun h19 => ?_) (fun h19 => ?_)
      · have h19 := b2i_1 h19
        obtain ⟨P, hP⟩ := Option.isSome_iff_exists.mp h19
        refine wp_aload_n (pc := 25) dX8_again_25 rfl ?_
        refine wf_getR (pc := 26) dX8_again_26 fl_X8_51 lk_0 (H.r 0 7 117 rfl) ?_
        refine wp_iload_n (pc := 29) dX8_again_29 rfl ?_
        refine wp_aload_n (pc := 30) dX8_again_30 rfl ?_
        refine wf_getR (pc := 31) dX8_again_31 fl_X8_34 lk_0 (H.r 0 4 19 rfl) ?_
        refine wf_callVv (pc := 34) dX8_again_34 cl_X8_250 (c_restore H.r V.l.N H.k hk hP) lk_117 rfl rfl rfl rfl (Nat.le_of_ble_eq_true rfl) (by decide) ⟨Nat.le_refl _, Nat.le_refl _⟩ (fun M34 q34 => ?_)
        have F : Fr M M34 := q34.2.fr (by decide)
        have H := H.town (hr P) q34.2 q34.1
        refine wp_aload_n (pc := 37) dX8_again_37 rfl ?_
        refine wf_getR (pc := 38) dX8_again_38 fl_X8_44 lk_0 (H.r 0 6 31 rfl) ?_
        refine wf_callVv (pc := 41) dX8_again_41 cl_X8_86 (c_acts_forget H.r) lk_31 rfl rfl rfl rfl (Nat.le_of_ble_eq_true rfl) (by decide) ⟨Nat.le_refl _, Nat.le_refl _⟩ (fun M41 q41 => ?_)
        have q42 : Sm 31 32 M34 (wI M34 31 0 (nI 0)) := Sm.w (by omega) (by omega)
        rw [← q41] at q42
        have F := F.tr (q42.fr (by decide))
        have H := H.acts (q42.si.up (by omega) (by omega)) q42.ra (by rw [q41]; exact H.a.zero)
        refine wp_aload_n (pc := 44) dX8_again_44 rfl ?_
        refine wf_getR (pc := 45) dX8_again_45 fl_X8_34 lk_0 (H.r 0 4 19 rfl) ?_
        refine wf_getI (pc := 48) dX8_again_48 fl_X8_99 IT_19.1 ?_
        refine wf_iret (pc := 51) dX8_again_51 rfl ?_
        unfold oAgain; rw [if_pos e, nI_cl (by omega), hP]
        exact ⟨H.p.1, H, F⟩
      · have h19 := b2i_0 h19
        refine wp_bipush (pc := 22) (x := (-3)) dX8_again_22 bp_m3 ?_
        refine wf_iret (pc := 24) dX8_again_24 rfl ?_
        unfold oAgain; rw [if_pos e, nI_cl (by omega), show s.S k = none by simpa using h19]
        exact ⟨rfl, H, Fr.rf⟩
    · have e : ¬ inD x 2 = true := in_n2 h6
      refine wp_ic (pc := 9) (x := (-1)) dX8_again_9 ic_m1 ?_
      refine wf_iret (pc := 10) dX8_again_10 rfl ?_
      unfold oAgain; rw [if_neg e]
      exact ⟨rfl, H, Fr.rf⟩
theorem c_see {l : Launch} {K : CtxT} {M : Mm} {s : Sv} {B : Nat} (H : XI M s) (V : OkV B s) (hB : B ≤ 9999) {y x t : Int32} : Ci l K 2 mX8_see [.ref (K.1 + 0), .int y, .int x, .int t] M (fun r M' => r = (oSee s y x t).1 ∧ XI M' (oSee s y x t).2 ∧ Fr M M') := by
  refine ci_of (L := [some (.ref (K.1 + 0)), some (.int y), some (.int x), some (.int t)]) (by decide +kernel) (Nat.le_of_ble_eq_true rfl) rfl rfl (fun E => ?_)
  refine wp_aload_n (pc := 0) dX8_see_0 rfl ?_
  refine wf_getR (pc := 1) dX8_see_1 fl_X8_27 lk_0 (H.r 0 3 14 rfl) ?_
  refine wp_iload_n (pc := 4) dX8_see_4 rfl ?_
  refine wf_callVi (pc := 5) dX8_see_5 cl_X8_143 (c_hasMan IL_14 H.r V.l.N H.l) IL_14.1 rfl rfl rfl rfl (Nat.le_of_ble_eq_true rfl) (by decide) ⟨Nat.le_refl _, Nat.le_refl _⟩ (fun r5 M5 q5 => ?_)
  rw [q5.1, q5.2]
  refine wp_if_ne (pc := 8) 13 dX8_see_8 (by decide) (fun h8 => ?_) (fun h8 => ?_)
  · have h8 := b2i_1 h8
    obtain ⟨m, hm, em⟩ := inD_of (by assumption) (show lM s.Λ < 2 ^ 31 by have := V.l.N.2.1; omega)
    have hm4 : m < 5 := Nat.lt_of_lt_of_le hm V.l.N.2.1
    subst em
    refine wp_iload_n (pc := 13) dX8_see_13 rfl ?_
    refine wp_if_lt (pc := 14) 32 dX8_see_14 (by decide) (fun h14 => ?_) (fun h14 => ?_)
    · have e : ¬ (inD x 5 = true ∧ inD t 12 = true) := fun q => in_n1 h14 q.1
      refine wp_bipush (pc := 32) (x := (-2)) dX8_see_32 bp_m2 ?_
      refine wf_iret (pc := 34) dX8_see_34 rfl ?_
      unfold oSee; rw [if_pos h8, if_neg e]
      exact ⟨rfl, H, Fr.rf⟩
    · refine wp_iload_n (pc := 17) dX8_see_17 rfl ?_
      refine wp_ic (pc := 18) (x := nI 5) dX8_see_18 ic_5 ?_
      refine wp_icmp_ge (pc := 19) 32 dX8_see_19 (by decide) (fun h19 => ?_) (fun h19 => ?_)
      · have e : ¬ (inD x 5 = true ∧ inD t 12 = true) := fun q => in_n3 h19 q.1
        refine wp_bipush (pc := 32) (x := (-2)) dX8_see_32 bp_m2 ?_
        refine wf_iret (pc := 34) dX8_see_34 rfl ?_
        unfold oSee; rw [if_pos h8, if_neg e]
        exact ⟨rfl, H, Fr.rf⟩
      · have e1 : inD x 5 = true := in_n4 h14 h19
        refine wp_iload_n (pc := 22) dX8_see_22 rfl ?_
        refine wp_if_lt (pc := 23) 32 dX8_see_23 (by decide) (fun h23 => ?_) (fun h23 => ?_)
        · have e : ¬ (inD x 5 = true ∧ inD t 12 = true) := fun q => in_n1 h23 q.2
          refine wp_bipush (pc := 32) (x := (-2)) dX8_see_32 bp_m2 ?_
          refine wf_iret (pc := 34) dX8_see_34 rfl ?_
          unfold oSee; rw [if_pos h8, if_neg e]
          exact ⟨rfl, H, Fr.rf⟩
        · refine wp_iload_n (pc := 26) dX8_see_26 rfl ?_
          refine wp_bipush (pc := 27) (x := nI 12) dX8_see_27 bp_12 ?_
          refine wp_icmp_lt (pc := 29) 35 dX8_see_29 (by decide) (fun h29 => ?_) (fun h29 => ?_)
          · have e2 : inD t 12 = true := in_n h23 h29
            have e : inD x 5 = true ∧ inD t 12 = true := ⟨e1, e2⟩
            obtain ⟨a, ha, ea⟩ := inD_of e1 (by decide)
            obtain ⟨b, hb, eb⟩ := inD_of e2 (by decide)
            subst ea eb
            have h6 := V.s.1
            refine wp_aload_n (pc := 35) dX8_see_35 rfl ?_
            refine wf_getR (pc := 36) dX8_see_36 fl_X8_65 lk_0 (H.r 0 9 144 rfl) ?_
            refine wf_getI (pc := 39) dX8_see_39 fl_X8_119 lk_144 ?_
            rw [H.s.1]
            refine wp_bipush (pc := 42) (x := nI 6) dX8_see_42 bp_6 ?_
            refine wp_icmp_lt (pc := 44) 50 dX8_see_44 (by decide) (fun h44 => ?_) (fun h44 => ?_)
            · have e4 : ¬ 6 ≤ s.σ.1 := fun q => nI_nlt q (by omega) h44
              refine wp_aload_n (pc := 50) dX8_see_50 rfl ?_
              refine wf_getR (pc := 51) dX8_see_51 fl_X8_65 lk_0 (H.r 0 9 144 rfl) ?_
              refine wp_iload_n (pc := 54) dX8_see_54 rfl ?_
              refine wp_iload_n (pc := 55) dX8_see_55 rfl ?_
              refine wp_iload_n (pc := 56) dX8_see_56 rfl ?_
              refine wf_callVv (pc := 57) dX8_see_57 cl_X8_214 (c_add H.r V.s H.s (by omega)) lk_144 rfl rfl rfl rfl (Nat.le_of_ble_eq_true rfl) (by decide) ⟨Nat.le_refl _, Nat.le_refl _⟩ (fun M57 q57 => ?_)
              have F : Fr M M57 := q57.2.fr (by decide)
              have H := H.sights q57.2 q57.1
              refine wp_aload_n (pc := 60) dX8_see_60 rfl ?_
              refine wf_getR (pc := 61) dX8_see_61 fl_X8_65 lk_0 (H.r 0 9 144 rfl) ?_
              refine wf_getI (pc := 64) dX8_see_64 fl_X8_119 lk_144 ?_
              rw [H.s.1]
              refine wf_iret (pc := 67) dX8_see_67 rfl ?_
              unfold oSee; rw [if_pos h8, if_pos e, if_neg e4, nI_cl (by omega), nI_cl (by omega), nI_cl (by omega)]
              exact ⟨rfl, H, F⟩
            · have e4 : 6 ≤ s.σ.1 := by rcases Nat.lt_or_ge s.σ.1 6 with q | q; exact absurd (nI_lt q (by omega)) h44; exact q
              refine wp_bipush (pc := 47) (x := (-4)) dX8_see_47 bp_m4 ?_
              refine wf_iret (pc := 49) dX8_see_49 rfl ?_
              unfold oSee; rw [if_pos h8, if_pos e, if_pos e4]
              exact ⟨rfl, H, Fr.rf⟩
          · have e : ¬ (inD x 5 = true ∧ inD t 12 = true) := fun q => in_n2 h29 q.2
            refine wp_bipush (pc := 32) (x := (-2)) dX8_see_32 bp_m2 ?_
            refine wf_iret (pc := 34) dX8_see_34 rfl ?_
            unfold oSee; rw [if_pos h8, if_neg e]
            exact ⟨rfl, H, Fr.rf⟩
  · have h8 := b2i_0 h8
    refine wp_ic (pc := 11) (x := (-1)) dX8_see_11 ic_m1 ?_
    refine wf_iret (pc := 12) dX8_see_12 rfl ?_
    unfold oSee; rw [if_neg (by rw [h8]; decide)]
    exact ⟨rfl, H, Fr.rf⟩
theorem c_unsee {l : Launch} {K : CtxT} {M : Mm} {s : Sv} {B : Nat} (H : XI M s) (V : OkV B s) (hB : B ≤ 9999) : Ci l K 1 mX8_unsee [.ref (K.1 + 0)] M (fun r M' => r = nI s.σ.1 ∧ XI M' (s.seen (0, s.σ.2)) ∧ Fr M M') := by
  refine ci_of (L := [some (.ref (K.1 + 0)), none]) (by decide +kernel) (Nat.le_of_ble_eq_true rfl) rfl rfl (fun E => ?_)
  refine wp_aload_n (pc := 0) dX8_unsee_0 rfl ?_
  refine wf_getR (pc := 1) dX8_unsee_1 fl_X8_65 lk_0 (H.r 0 9 144 rfl) ?_
  refine wf_getI (pc := 4) dX8_unsee_4 fl_X8_119 lk_144 ?_
  rw [H.s.1]
  refine wp_istore_n (pc := 7) (L' := [_, _]) dX8_unsee_7 (Nat.le_of_ble_eq_true rfl) rfl rfl ?_
  refine wp_aload_n (pc := 8) dX8_unsee_8 rfl ?_
  refine wf_getR (pc := 9) dX8_unsee_9 fl_X8_65 lk_0 (H.r 0 9 144 rfl) ?_
  refine wp_ic (pc := 12) (x := nI 0) dX8_unsee_12 ic_0 ?_
  refine wf_putI (pc := 13) dX8_unsee_13 fl_X8_119 lk_144 ?_
  refine wp_iload_n (pc := 16) dX8_unsee_16 rfl ?_
  refine wf_iret (pc := 17) dX8_unsee_17 rfl ?_
  have q16 : Sm 144 148 M (wI M 144 0 (nI 0)) := Sm.w (by omega) (by omega)
  exact ⟨rfl, H.sights q16 ⟨wI_at _ _ _ _, fun k hk => absurd hk (Nat.not_lt_zero _)⟩, q16.fr (by decide)⟩
theorem c_seed {l : Launch} {K : CtxT} {M : Mm} {s : Sv} {B : Nat} (H : XI M s) (V : OkV B s) (hB : B ≤ 9999) {x : Int64} : Cl l K 0 mX8_seed [.ref (K.1 + 0), .long x] M (fun r M' => r = s.e ∧ XI M' (s.sd x) ∧ Fr M M') := by
  refine cl_of (L := [some (.ref (K.1 + 0)), some (.long x), none, none, none]) (by decide +kernel) (Nat.le_of_ble_eq_true rfl) rfl rfl (fun E => ?_)
  refine wp_aload_n (pc := 0) dX8_seed_0 rfl ?_
  refine wf_getJ (pc := 1) dX8_seed_1 fl_X8_69 lk_0 ?_
  rw [H.e]
  refine wp_lstore_n (pc := 4) (L' := [_, _, _, _, _]) dX8_seed_4 (Nat.le_of_ble_eq_true rfl) rfl rfl ?_
  refine wp_aload_n (pc := 5) dX8_seed_5 rfl ?_
  refine wp_lload_n (pc := 6) dX8_seed_6 rfl ?_
  refine wf_putJ (pc := 7) dX8_seed_7 fl_X8_69 lk_0 ?_
  refine wp_lload_n (pc := 10) dX8_seed_10 rfl ?_
  refine wf_lret (pc := 11) dX8_seed_11 rfl ?_
  exact ⟨rfl, H.sd x, Fr.sd⟩
