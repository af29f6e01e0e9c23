def rg (a b : Nat) (x : Int32) : Bool := !decide (x < nI a) && !decide (nI b < x)
theorem rg_n1 {a b : Nat} {x : Int32} (h : x < nI a) : rg a b x = false := by simp [rg, h]
theorem rg_n2 {a b : Nat} {x : Int32} (h : nI b < x) : rg a b x = false := by simp [rg, h]
theorem rg_n3 {a b : Nat} {x : Int32} (h : ¬ x ≤ nI b) : rg a b x = false := rg_n2 (Int32.not_le.mp h)
theorem rg_y {a b : Nat} {x : Int32} (h1 : ¬ x < nI a) (h2 : ¬ nI b < x) : rg a b x = true := by simp [rg, h1, h2]
theorem rg_y3 {a b : Nat} {x : Int32} (h1 : ¬ x < nI a) (h2 : x ≤ nI b) : rg a b x = true := rg_y h1 (Int32.not_lt.mpr h2)
theorem rg_of {a b : Nat} {x : Int32} (h : rg a b x = true) (hb : b < 2 ^ 30) (ha : a ≤ b) : ∃ n, a ≤ n ∧ n ≤ b ∧ x = nI n := by
  simp only [rg, Bool.and_eq_true, Bool.not_eq_true', decide_eq_false_iff_not] at h
  have h0 : ¬ x < 0 := fun q => h.1 (Int32.lt_of_lt_of_le q (nI_le (Nat.zero_le a) (by omega)))
  obtain ⟨j, hj, rfl⟩ := nI_of h0
  refine ⟨j, ?_, ?_, rfl⟩
  · rcases Nat.lt_or_ge j a with q | q
    · exact absurd (nI_lt q (by omega)) h.1
    · exact q
  · rcases Nat.lt_or_ge b j with q | q
    · exact absurd (nI_lt q hj) h.2
    · exact q
theorem or_nI {a b : Nat} : nI a ||| nI b = nI (a ||| b) := by
  apply Int32.toBitVec_inj.1
  show BitVec.ofNat 32 a ||| BitVec.ofNat 32 b = BitVec.ofNat 32 (a ||| b)
  apply BitVec.eq_of_getLsbD_eq
  intro i hi
  simp [hi]
/-- hours that pass on trial: who is caught, and the page -/
def tryP (Λ : Lw) (P : Pg) (h far : Nat) (x : Int32) : Nat → Int32 × Pg
  | 0 => (nI 0, P)
  | k + 1 => ((tryP Λ P h far x k).1 ||| (hourP Λ (tryP Λ P h far x k).2 (h + k) far x).1, (hourP Λ (tryP Λ P h far x k).2 (h + k) far x).2)
theorem tryP_ok {Λ : Lw} {P : Pg} {h : Nat} (H : OkP Λ P h) (hL : OkN Λ) (far : Nat) (x : Int32) : ∀ k, OkP Λ (tryP Λ P h far x k).2 (h + k) ∧ ∃ a, a < 32 ∧ (tryP Λ P h far x k).1 = nI a
  | 0 => ⟨H, 0, by decide, rfl⟩
  | k + 1 => by
    obtain ⟨i1, a, i2, i3⟩ := tryP_ok H hL far x k
    obtain ⟨b, j2, j3⟩ := hour_lt i1 hL far x
    refine ⟨i1.hour hL far x, a ||| b, Nat.or_lt_two_pow (n := 5) i2 j2, ?_⟩
    show (tryP Λ P h far x k).1 ||| (hourP Λ (tryP Λ P h far x k).2 (h + k) far x).1 = _
    rw [i3, j3, or_nI]
theorem c_tryHours {l : Launch} {K : CtxT} {M : Mm} {s : Sv} {B : Nat} (H : XI M s) (V : OkV B s) (hB : B ≤ 9999) {n far : Nat} {x : Int32} (hn : n ≤ 99) (hf : far ≤ 99) : Ci l K 4 mX8_tryHours [.ref (K.1 + 0), .int (nI n), .int x, .int (nI far)] M (fun r M' => r = (tryP s.Λ s.P s.h far x n).1 ∧ XT M' 25 s.Λ (tryP s.Λ s.P s.h far x n).2 ∧ Sm 25 31 M M') := by
  refine ci_of (L := [some (.ref (K.1 + 0)), some (.int (nI n)), some (.int x), some (.int (nI far)), none, none]) (by decide +kernel) (Nat.le_of_ble_eq_true rfl) rfl rfl (fun E => ?_)
  have loop : ∀ (n' k : Nat) (M1 : Mm), n' = n - k → k ≤ n → Sm 25 31 M M1 → XT M1 25 s.Λ (tryP s.Λ s.P s.h far x k).2 → Wp E K mX8_tryHours 4 (0, 0) 17 [some (.ref (K.1 + 0)), some (.int (nI n)), some (.int x), some (.int (nI far)), some (.int (tryP s.Λ s.P s.h far x k).1), some (.int (nI k))] [] 168 M1 0 0 (zI E K (fun r M' => r = (tryP s.Λ s.P s.h far x n).1 ∧ XT M' 25 s.Λ (tryP s.Λ s.P s.h far x n).2 ∧ Sm 25 31 M M')) := by
    intro n'
    induction n' with
    | zero =>
      intro k M1 hn1 hk s1 hd
      refine wp_iload (pc := 17) dX8_tryHours_17 rfl ?_
      refine wp_iload_n (pc := 19) dX8_tryHours_19 rfl ?_
      refine wp_icmp_ge (pc := 20) 47 dX8_tryHours_20 (by decide) (fun h20 => ?_) (fun h20 => ?_)
      · have e : k = n := by omega
        subst e
        refine wp_iload (pc := 47) dX8_tryHours_47 rfl ?_
        refine wf_iret (pc := 49) dX8_tryHours_49 rfl ?_
        exact ⟨rfl, hd, s1⟩
      · exact absurd (nI_le (by omega) (by omega)) h20
    | succ n' ih =>
      intro k M1 hn1 hk s1 hd
      have H1 := H.scr s1 (by omega)
      have hB2 := V.h
      obtain ⟨o1, a, o2, o3⟩ := tryP_ok V.p V.l.N far x k
      refine wp_iload (pc := 17) dX8_tryHours_17 rfl ?_
      refine wp_iload_n (pc := 19) dX8_tryHours_19 rfl ?_
      refine wp_icmp_ge (pc := 20) 47 dX8_tryHours_20 (by decide) (fun h20 => ?_) (fun h20 => ?_)
      · exact absurd h20 (nI_ge (by omega) (by omega))
      · refine wp_iload (pc := 23) dX8_tryHours_23 rfl ?_
        refine wp_aload_n (pc := 25) dX8_tryHours_25 rfl ?_
        refine wf_getR (pc := 26) dX8_tryHours_26 fl_X8_38 lk_0 (H1.r 0 5 25 rfl) ?_
        refine wp_aload_n (pc := 29) dX8_tryHours_29 rfl ?_
        refine wf_getR (pc := 30) dX8_tryHours_30 fl_X8_27 lk_0 (H1.r 0 3 14 rfl) ?_
        refine wp_iload_n (pc := 33) dX8_tryHours_33 rfl ?_
        refine wp_iload_n (pc := 34) dX8_tryHours_34 rfl ?_
        refine wf_callVi (pc := 35) dX8_tryHours_35 cl_X8_175 (c_passHour IT_25 IL_14 H1.r V.l.N H1.l hd o1.kp (by omega) o1.1 (by omega)) IT_25.1 rfl rfl rfl rfl (Nat.le_of_ble_eq_true rfl) (by decide) ⟨Nat.le_refl _, Nat.le_refl _⟩ (fun r35 M35 q35 => ?_)
        rw [q35.1]
        refine wp_ior (pc := 38) dX8_tryHours_38 ?_
        refine wp_istore (pc := 39) (L' := [_, _, _, _, _, _]) dX8_tryHours_39 (Nat.le_of_ble_eq_true rfl) rfl rfl ?_
        refine wp_iinc1 (pc := 41) (L' := [_, _, _, _, _, _]) dX8_tryHours_41 rfl rfl rfl ?_
        refine wp_goto (pc := 44) 17 dX8_tryHours_44 (by decide) ?_
        exact ih (k + 1) M35 (by omega) (by omega) (s1.tr q35.2.2) q35.2.1
  refine wp_ic (pc := 0) (x := nI 0) dX8_tryHours_0 ic_0 ?_
  refine wp_istore (pc := 1) (L' := [_, _, _, _, _, _]) dX8_tryHours_1 (Nat.le_of_ble_eq_true rfl) rfl rfl ?_
  refine wp_aload_n (pc := 3) dX8_tryHours_3 rfl ?_
  refine wf_getR (pc := 4) dX8_tryHours_4 fl_X8_38 lk_0 (H.r 0 5 25 rfl) ?_
  refine wp_aload_n (pc := 7) dX8_tryHours_7 rfl ?_
  refine wf_getR (pc := 8) dX8_tryHours_8 fl_X8_34 lk_0 (H.r 0 4 19 rfl) ?_
  refine wf_callVv (pc := 11) dX8_tryHours_11 cl_X8_83 (c_Town_become IT_25 IT_19 H.r (by omega)) IT_25.1 rfl rfl rfl rfl (Nat.le_of_ble_eq_true rfl) (by decide) ⟨Nat.le_refl _, Nat.le_refl _⟩ (fun M11 q11 => ?_)
  refine wp_ic (pc := 14) (x := nI 0) dX8_tryHours_14 ic_0 ?_
  refine wp_istore (pc := 15) (L' := [_, _, _, _, _, _]) dX8_tryHours_15 (Nat.le_of_ble_eq_true rfl) rfl rfl ?_
  exact loop n 0 M11 (by omega) (by omega) q11.2 (q11.1.XT ⟨V.l.1, V.l.2.1⟩ H.p)
def oCaught (s : Sv) (x : Int32) : Int32 := if rg 0 24 x = true then (tryP s.Λ s.P s.h 0 (lLe s.Λ) x.toNatClampNeg).1 else -2
theorem c_caught {l : Launch} {K : CtxT} {M : Mm} {s : Sv} {B : Nat} (H : XI M s) (V : OkV B s) (hB : B ≤ 9999) {x : Int32} : Ci l K 5 mX8_caught [.ref (K.1 + 0), .int x] M (fun r M' => r = oCaught s x ∧ XI M' s ∧ Fr M M') := by
  refine ci_of (L := [some (.ref (K.1 + 0)), some (.int x)]) (by decide +kernel) (Nat.le_of_ble_eq_true rfl) rfl rfl (fun E => ?_)
  refine wp_iload_n (pc := 0) dX8_caught_0 rfl ?_
  refine wp_if_lt (pc := 1) 10 dX8_caught_1 (by decide) (fun h1 => ?_) (fun h1 => ?_)
  · have e : rg 0 24 x = false := rg_n1 h1
    refine wp_bipush (pc := 10) (x := (-2)) dX8_caught_10 bp_m2 ?_
    refine wf_iret (pc := 12) dX8_caught_12 rfl ?_
    unfold oCaught; rw [e]
    exact ⟨rfl, H, Fr.rf⟩
  · refine wp_iload_n (pc := 4) dX8_caught_4 rfl ?_
    refine wp_bipush (pc := 5) (x := nI 24) dX8_caught_5 bp_24 ?_
    refine wp_icmp_le (pc := 7) 13 dX8_caught_7 (by decide) (fun h7 => ?_) (fun h7 => ?_)
    · have e : rg 0 24 x = true := rg_y3 h1 h7
      obtain ⟨n, -, hn, ex⟩ := rg_of e (by decide) (by decide)
      subst ex
      refine wp_aload_n (pc := 13) dX8_caught_13 rfl ?_
      refine wp_iload_n (pc := 14) dX8_caught_14 rfl ?_
      refine wp_aload_n (pc := 15) dX8_caught_15 rfl ?_
      refine wf_getR (pc := 16) dX8_caught_16 fl_X8_27 lk_0 (H.r 0 3 14 rfl) ?_
      refine wf_getI (pc := 19) dX8_caught_19 fl_X8_96 IL_14.1 ?_
      rw [H.l.2.2.1]
      refine wp_ic (pc := 22) (x := nI 0) dX8_caught_22 ic_0 ?_
      refine wf_callVi (pc := 23) dX8_caught_23 cl_X8_182 (c_tryHours H V hB (by omega) (by omega)) lk_0 rfl rfl rfl rfl (Nat.le_of_ble_eq_true rfl) (by decide) ⟨Nat.le_refl _, Nat.le_refl _⟩ (fun r23 M23 q23 => ?_)
      have F : Fr M M23 := q23.2.2.fr (by decide)
      have H := H.scr q23.2.2 (by omega)
      refine wf_iret (pc := 26) dX8_caught_26 rfl ?_
      unfold oCaught; rw [e, nI_cl (by omega)]
      exact ⟨q23.1, H, F⟩
    · have e : rg 0 24 x = false := rg_n3 h7
      refine wp_bipush (pc := 10) (x := (-2)) dX8_caught_10 bp_m2 ?_
      refine wf_iret (pc := 12) dX8_caught_12 rfl ?_
      unfold oCaught; rw [e]
      exact ⟨rfl, H, Fr.rf⟩
def oPays (s : Sv) (x y : Int32) : Int32 := if rg 0 12 x = true ∧ rg 0 24 y = true then sumB (tryP s.Λ s.P s.h 0 x y.toNatClampNeg).2 (lD s.Λ) - sumB s.P (lD s.Λ) else -2
theorem c_pays {l : Launch} {K : CtxT} {M : Mm} {s : Sv} {B : Nat} (H : XI M s) (V : OkV B s) (hB : B ≤ 9999) {x y : Int32} : Ci l K 5 mX8_pays [.ref (K.1 + 0), .int x, .int y] M (fun r M' => r = oPays s x y ∧ XI M' s ∧ Fr M M') := by
  refine ci_of (L := [some (.ref (K.1 + 0)), some (.int x), some (.int y)]) (by decide +kernel) (Nat.le_of_ble_eq_true rfl) rfl rfl (fun E => ?_)
  refine wp_iload_n (pc := 0) dX8_pays_0 rfl ?_
  refine wp_if_lt (pc := 1) 20 dX8_pays_1 (by decide) (fun h1 => ?_) (fun h1 => ?_)
  · have e : ¬ (rg 0 12 x = true ∧ rg 0 24 y = true) := fun q => by rw [rg_n1 h1] at q; cases q.1
    refine wp_bipush (pc := 20) (x := (-2)) dX8_pays_20 bp_m2 ?_
    refine wf_iret (pc := 22) dX8_pays_22 rfl ?_
    unfold oPays; rw [if_neg e]
    exact ⟨rfl, H, Fr.rf⟩
  · refine wp_iload_n (pc := 4) dX8_pays_4 rfl ?_
    refine wp_bipush (pc := 5) (x := nI 12) dX8_pays_5 bp_12 ?_
    refine wp_icmp_gt (pc := 7) 20 dX8_pays_7 (by decide) (fun h7 => ?_) (fun h7 => ?_)
    · have e : ¬ (rg 0 12 x = true ∧ rg 0 24 y = true) := fun q => by rw [rg_n2 h7] at q; cases q.1
      refine wp_bipush (pc := 20) (x := (-2)) dX8_pays_20 bp_m2 ?_
      refine wf_iret (pc := 22) dX8_pays_22 rfl ?_
      unfold oPays; rw [if_neg e]
      exact ⟨rfl, H, Fr.rf⟩
    · have e1 : rg 0 12 x = true := rg_y h1 h7
      refine wp_iload_n (pc := 10) dX8_pays_10 rfl ?_
      refine wp_if_lt (pc := 11) 20 dX8_pays_11 (by decide) (fun h11 => ?_) (fun h11 => ?_)
      · have e : ¬ (rg 0 12 x = true ∧ rg 0 24 y = true) := fun q => by rw [rg_n1 h11] at q; cases q.2
        refine wp_bipush (pc := 20) (x := (-2)) dX8_pays_20 bp_m2 ?_
        refine wf_iret (pc := 22) dX8_pays_22 rfl ?_
        unfold oPays; rw [if_neg e]
        exact ⟨rfl, H, Fr.rf⟩
      · refine wp_iload_n (pc := 14) dX8_pays_14 rfl ?_
        refine wp_bipush (pc := 15) (x := nI 24) dX8_pays_15 bp_24 ?_
        refine wp_icmp_le (pc := 17) 23 dX8_pays_17 (by decide) (fun h17 => ?_) (fun h17 => ?_)
        · have e2 : rg 0 24 y = true := rg_y3 h11 h17
          have e : rg 0 12 x = true ∧ rg 0 24 y = true := ⟨e1, e2⟩
          obtain ⟨n, -, hn, ex⟩ := rg_of e2 (by decide) (by decide)
          subst ex
          refine wp_aload_n (pc := 23) dX8_pays_23 rfl ?_
          refine wp_iload_n (pc := 24) dX8_pays_24 rfl ?_
          refine wp_iload_n (pc := 25) dX8_pays_25 rfl ?_
          refine wp_ic (pc := 26) (x := nI 0) dX8_pays_26 ic_0 ?_
          refine wf_callVi (pc := 27) dX8_pays_27 cl_X8_182 (c_tryHours H V hB (by omega) (by omega)) lk_0 rfl rfl rfl rfl (Nat.le_of_ble_eq_true rfl) (by decide) ⟨Nat.le_refl _, Nat.le_refl _⟩ (fun r27 M27 q27 => ?_)
          have F : Fr M M27 := q27.2.2.fr (by decide)
          have H := H.scr q27.2.2 (by omega)
          refine wp_pop (pc := 30) dX8_pays_30 rfl ?_
          refine wp_aload_n (pc := 31) dX8_pays_31 rfl ?_
          refine wf_getR (pc := 32) dX8_pays_32 fl_X8_38 lk_0 (H.r 0 5 25 rfl) ?_
          refine wp_aload_n (pc := 35) dX8_pays_35 rfl ?_
          refine wf_getR (pc := 36) dX8_pays_36 fl_X8_27 lk_0 (H.r 0 3 14 rfl) ?_
          refine wf_callVi (pc := 39) dX8_pays_39 cl_X8_113 (c_allBones IT_25 IL_14 H.r V.l.N H.l q27.2.1) IT_25.1 rfl rfl rfl rfl (Nat.le_of_ble_eq_true rfl) (by decide) ⟨Nat.le_refl _, Nat.le_refl _⟩ (fun r39 M39 q39 => ?_)
          rw [q39.1, q39.2]
          refine wp_aload_n (pc := 42) dX8_pays_42 rfl ?_
          refine wf_getR (pc := 43) dX8_pays_43 fl_X8_34 lk_0 (H.r 0 4 19 rfl) ?_
          refine wp_aload_n (pc := 46) dX8_pays_46 rfl ?_
          refine wf_getR (pc := 47) dX8_pays_47 fl_X8_27 lk_0 (H.r 0 3 14 rfl) ?_
          refine wf_callVi (pc := 50) dX8_pays_50 cl_X8_113 (c_allBones IT_19 IL_14 H.r V.l.N H.l H.p) IT_19.1 rfl rfl rfl rfl (Nat.le_of_ble_eq_true rfl) (by decide) ⟨Nat.le_refl _, Nat.le_refl _⟩ (fun r50 M50 q50 => ?_)
          rw [q50.1, q50.2]
          refine wp_isub (pc := 53) dX8_pays_53 ?_
          refine wf_iret (pc := 54) dX8_pays_54 rfl ?_
          unfold oPays; rw [if_pos e, nI_cl (by omega)]
          exact ⟨rfl, H, F⟩
        · have e : ¬ (rg 0 12 x = true ∧ rg 0 24 y = true) := fun q => by rw [rg_n3 h17] at q; cases q.2
          refine wp_bipush (pc := 20) (x := (-2)) dX8_pays_20 bp_m2 ?_
          refine wf_iret (pc := 22) dX8_pays_22 rfl ?_
          unfold oPays; rw [if_neg e]
          exact ⟨rfl, H, Fr.rf⟩
def oSpans (a b t : Int32) : Int32 := if rg 1 9 a = true ∧ rg 1 9 b = true ∧ rg 0 99 t = true then (if a.toNatClampNeg * t.toNatClampNeg / (a.toNatClampNeg + b.toNatClampNeg) < a.toNatClampNeg * (t.toNatClampNeg + 1) / (a.toNatClampNeg + b.toNatClampNeg) then nI 0 else nI 1) else -2
theorem c_spans {l : Launch} {K : CtxT} {M : Mm} {s : Sv} (H : XI M s) {a b t : Int32} : Ci l K 0 mX8_spans [.ref (K.1 + 0), .int a, .int b, .int t] M (fun r M' => r = oSpans a b t ∧ XI M' s ∧ Fr M M') := by
  refine ci_of (L := [some (.ref (K.1 + 0)), some (.int a), some (.int b), some (.int t)]) (by decide +kernel) (Nat.le_of_ble_eq_true rfl) rfl rfl (fun E => ?_)
  refine wp_iload_n (pc := 0) dX8_spans_0 rfl ?_
  refine wp_ic (pc := 1) (x := nI 1) dX8_spans_1 ic_1 ?_
  refine wp_icmp_lt (pc := 2) 32 dX8_spans_2 (by decide) (fun h2 => ?_) (fun h2 => ?_)
  · have e : ¬ (rg 1 9 a = true ∧ rg 1 9 b = true ∧ rg 0 99 t = true) := fun q => by rw [rg_n1 h2] at q; cases q.1
    refine wp_bipush (pc := 32) (x := (-2)) dX8_spans_32 bp_m2 ?_
    refine wf_iret (pc := 34) dX8_spans_34 rfl ?_
    unfold oSpans; rw [if_neg e]
    exact ⟨rfl, H, Fr.rf⟩
  · refine wp_iload_n (pc := 5) dX8_spans_5 rfl ?_
    refine wp_bipush (pc := 6) (x := nI 9) dX8_spans_6 bp_9 ?_
    refine wp_icmp_gt (pc := 8) 32 dX8_spans_8 (by decide) (fun h8 => ?_) (fun h8 => ?_)
    · have e : ¬ (rg 1 9 a = true ∧ rg 1 9 b = true ∧ rg 0 99 t = true) := fun q => by rw [rg_n2 h8] at q; cases q.1
      refine wp_bipush (pc := 32) (x := (-2)) dX8_spans_32 bp_m2 ?_
      refine wf_iret (pc := 34) dX8_spans_34 rfl ?_
      unfold oSpans; rw [if_neg e]
      exact ⟨rfl, H, Fr.rf⟩
    · have e1 : rg 1 9 a = true := rg_y h2 h8
      refine wp_iload_n (pc := 11) dX8_spans_11 rfl ?_
      refine wp_ic (pc := 12) (x := nI 1) dX8_spans_12 ic_1 ?_
      refine wp_icmp_lt (pc := 13) 32 dX8_spans_13 (by decide) (fun h13 => ?_) (fun h13 => ?_)
      · have e : ¬ (rg 1 9 a = true ∧ rg 1 9 b = true ∧ rg 0 99 t = true) := fun q => by rw [rg_n1 h13] at q; cases q.2.1
        refine wp_bipush (pc := 32) (x := (-2)) dX8_spans_32 bp_m2 ?_
        refine wf_iret (pc := 34) dX8_spans_34 rfl ?_
        unfold oSpans; rw [if_neg e]
        exact ⟨rfl, H, Fr.rf⟩
      · refine wp_iload_n (pc := 16) dX8_spans_16 rfl ?_
        refine wp_bipush (pc := 17) (x := nI 9) dX8_spans_17 bp_9 ?_
        refine wp_icmp_gt (pc := 19) 32 dX8_spans_19 (by decide) (fun h19 => ?_) (fun h19 => ?_)
        · have e : ¬ (rg 1 9 a = true ∧ rg 1 9 b = true ∧ rg 0 99 t = true) := fun q => by rw [rg_n2 h19] at q; cases q.2.1
          refine wp_bipush (pc := 32) (x := (-2)) dX8_spans_32 bp_m2 ?_
          refine wf_iret (pc := 34) dX8_spans_34 rfl ?_
          unfold oSpans; rw [if_neg e]
          exact ⟨rfl, H, Fr.rf⟩
        · have e2 : rg 1 9 b = true := rg_y h13 h19
          refine wp_iload_n (pc := 22) dX8_spans_22 rfl ?_
          refine wp_if_lt (pc := 23) 32 dX8_spans_23 (by decide) (fun h23 => ?_) (fun h23 => ?_)
          · have e : ¬ (rg 1 9 a = true ∧ rg 1 9 b = true ∧ rg 0 99 t = true) := fun q => by rw [rg_n1 h23] at q; cases q.2.2
            refine wp_bipush (pc := 32) (x := (-2)) dX8_spans_32 bp_m2 ?_
            refine wf_iret (pc := 34) dX8_spans_34 rfl ?_
            unfold oSpans; rw [if_neg e]
            exact ⟨rfl, H, Fr.rf⟩
          · refine wp_iload_n (pc := 26) dX8_spans_26 rfl ?_
            refine wp_bipush (pc := 27) (x := nI 99) dX8_spans_27 bp_99 ?_
            refine wp_icmp_le (pc := 29) 35 dX8_spans_29 (by decide) (fun h29 => ?_) (fun h29 => ?_)
            · have e3 : rg 0 99 t = true := rg_y3 h23 h29
              have e := And.intro e1 (And.intro e2 e3)
              obtain ⟨i, i1, i2, ei⟩ := rg_of e1 (by decide) (by decide)
              obtain ⟨j, j1, j2, ej⟩ := rg_of e2 (by decide) (by decide)
              obtain ⟨k, k1, k2, ek⟩ := rg_of e3 (by decide) (by decide)
              subst ei ej ek
              have m1 : i * k ≤ 9 * 99 := Nat.mul_le_mul i2 k2
              have m2 : i * (k + 1) ≤ 9 * 100 := Nat.mul_le_mul i2 (by omega)
              have m3 := Nat.div_le_self (i * k) (i + j)
              have m4 := Nat.div_le_self (i * (k + 1)) (i + j)
              refine wp_iload_n (pc := 35) dX8_spans_35 rfl ?_
              refine wp_iload_n (pc := 36) dX8_spans_36 rfl ?_
              refine wp_ic (pc := 37) (x := nI 1) dX8_spans_37 ic_1 ?_
              refine wp_iadd (pc := 38) dX8_spans_38 ?_
              refine wp_imul (pc := 39) dX8_spans_39 ?_
              refine wp_iload_n (pc := 40) dX8_spans_40 rfl ?_
              refine wp_iload_n (pc := 41) dX8_spans_41 rfl ?_
              refine wp_iadd (pc := 42) dX8_spans_42 ?_
              refine wp_idivN (pc := 43) dX8_spans_43 (show nI i * (nI k + nI 1) = nI (i * (k + 1)) by rw [nI_add, pk_mul]) (show nI i + nI j = nI (i + j) from nI_add _ _) (by omega) (by omega) (by omega) ?_
              refine wp_iload_n (pc := 44) dX8_spans_44 rfl ?_
              refine wp_iload_n (pc := 45) dX8_spans_45 rfl ?_
              refine wp_imul (pc := 46) dX8_spans_46 ?_
              refine wp_iload_n (pc := 47) dX8_spans_47 rfl ?_
              refine wp_iload_n (pc := 48) dX8_spans_48 rfl ?_
              refine wp_iadd (pc := 49) dX8_spans_49 ?_
              refine wp_idivN (pc := 50) dX8_spans_50 (show nI i * nI k = nI (i * k) by rw [pk_mul]) (show nI i + nI j = nI (i + j) from nI_add _ _) (by omega) (by omega) (by omega) ?_
              refine wp_icmp_le (pc := 51) 58 dX8_spans_51 (by decide) (fun h51 => ?_) (fun h51 => ?_)
              · have e5 : ¬ i * k / (i + j) < i * (k + 1) / (i + j) := fun q => absurd h51 (Int32.not_le.mpr (nI_lt q (by omega)))
                refine wp_ic (pc := 58) (x := nI 1) dX8_spans_58 ic_1 ?_
                refine wf_iret (pc := 59) dX8_spans_59 rfl ?_
                unfold oSpans; rw [if_pos e, nI_cl (by omega), nI_cl (by omega), nI_cl (by omega)]
                first | rw [if_pos e5] | rw [if_neg e5]
                exact ⟨rfl, H, Fr.rf⟩
              · have e5 : i * k / (i + j) < i * (k + 1) / (i + j) := by rcases Nat.lt_or_ge (i * k / (i + j)) (i * (k + 1) / (i + j)) with q | q; exact q; exact absurd (nI_le q (by omega)) h51
                refine wp_ic (pc := 54) (x := nI 0) dX8_spans_54 ic_0 ?_
                refine wp_goto (pc := 55) 59 dX8_spans_55 (by decide) ?_
                refine wf_iret (pc := 59) dX8_spans_59 rfl ?_
                unfold oSpans; rw [if_pos e, nI_cl (by omega), nI_cl (by omega), nI_cl (by omega)]
                first | rw [if_pos e5] | rw [if_neg e5]
                exact ⟨rfl, H, Fr.rf⟩
            · have e : ¬ (rg 1 9 a = true ∧ rg 1 9 b = true ∧ rg 0 99 t = true) := fun q => by rw [rg_n3 h29] at q; cases q.2.2
              refine wp_bipush (pc := 32) (x := (-2)) dX8_spans_32 bp_m2 ?_
              refine wf_iret (pc := 34) dX8_spans_34 rfl ?_
              unfold oSpans; rw [if_neg e]
              exact ⟨rfl, H, Fr.rf⟩
def rmN (Λ : Lw) (d : Nat) : Nat := (lRm Λ d).toNatClampNeg
def mySh (s : Sv) (m : Nat) : Nat := mayN s.Λ s.P s.σ m (lD s.Λ)
def oWalks (s : Sv) : Int32 := nI (shN (mySh s) (lD s.Λ) (lM s.Λ) 0 (rmN s.Λ))
def oSure (s : Sv) (y : Int32) : Int32 := if inD y (lM s.Λ) = true then (if cntC (okC (mySh s) (lD s.Λ) (lM s.Λ) y.toNatClampNeg (rmN s.Λ)) 5 = 1 then codeC (lastC (okC (mySh s) (lD s.Λ) (lM s.Λ) y.toNatClampNeg (rmN s.Λ)) 5) else no9) else -1
theorem mayN_32 (Λ : Lw) (P : Pg) (σ : Sg) (m : Nat) : ∀ n, n ≤ 4 → mayN Λ P σ m n < 32
  | 0, _ => by unfold mayN; split <;> decide
  | n + 1, h => by
    have i := mayN_32 Λ P σ m n (by omega)
    show mayN Λ P σ m n ||| (if fitB Λ P σ m n = true then 2 ^ n else 0) < 32
    refine Nat.or_lt_two_pow (n := 5) i ?_
    split
    · exact pow32 (by omega)
    · decide
theorem room_ok {M : Mm} {Λ : Lw} (hL : OkL Λ) (hx : XL M 14 Λ) {d : Nat} (hd : d < lD Λ) : M.1 17 d = nI (rmN Λ d) ∧ rmN Λ d ≤ 3 := by
  obtain ⟨r, r1, r2, r3⟩ := (hL.2.2.2.2.1 d hd).2.1
  have : rmN Λ d = r := by unfold rmN; rw [r3, nI_cl (by omega)]
  rw [this]
  exact ⟨(hx.2.2.2.2.2 d hd).2.1.trans r3, r2⟩
theorem c_walks {l : Launch} {K : CtxT} {M : Mm} {s : Sv} {B : Nat} (H : XI M s) (V : OkV B s) (hB : B ≤ 9999) : Ci l K 8 mX8_walks [.ref (K.1 + 0)] M (fun r M' => r = oWalks s ∧ XI M' s ∧ Fr M M') := by
  refine ci_of (L := [some (.ref (K.1 + 0))]) (by decide +kernel) (Nat.le_of_ble_eq_true rfl) rfl rfl (fun E => ?_)
  refine wp_aload_n (pc := 0) dX8_walks_0 rfl ?_
  refine wf_getR (pc := 1) dX8_walks_1 fl_X8_65 lk_0 (H.r 0 9 144 rfl) ?_
  refine wp_aload_n (pc := 4) dX8_walks_4 rfl ?_
  refine wf_getR (pc := 5) dX8_walks_5 fl_X8_27 lk_0 (H.r 0 3 14 rfl) ?_
  refine wp_aload_n (pc := 8) dX8_walks_8 rfl ?_
  refine wf_getR (pc := 9) dX8_walks_9 fl_X8_34 lk_0 (H.r 0 4 19 rfl) ?_
  refine wf_callVv (pc := 12) dX8_walks_12 cl_X8_218 (c_look H.r V.l H.l H.p V.p V.s H.s) lk_144 rfl rfl rfl rfl (Nat.le_of_ble_eq_true rfl) (by decide) ⟨Nat.le_refl _, Nat.le_refl _⟩ (fun M12 q12 => ?_)
  have F : Fr M M12 := q12.1.fr (by decide)
  have hm : ∀ j, j < lM s.Λ → M12.1 148 j = nI (mySh s j) ∧ mySh s j < 32 := fun j hj => ⟨q12.2.2 j hj, mayN_32 _ _ _ _ _ V.l.1⟩
  have hr : ∀ d, d < lD s.Λ → M12.1 149 d = nI (rmN s.Λ d) ∧ rmN s.Λ d ≤ 3 := fun d hd => by have := room_ok V.l H.l hd; rw [q12.2.1 d (Nat.lt_of_lt_of_le hd V.l.1)]; exact this
  have H := H.scr q12.1 (by omega)
  refine wp_aload_n (pc := 15) dX8_walks_15 rfl ?_
  refine wf_getR (pc := 16) dX8_walks_16 fl_X8_65 lk_0 (H.r 0 9 144 rfl) ?_
  refine wp_aload_n (pc := 19) dX8_walks_19 rfl ?_
  refine wf_getR (pc := 20) dX8_walks_20 fl_X8_27 lk_0 (H.r 0 3 14 rfl) ?_
  refine wf_callVi (pc := 23) dX8_walks_23 cl_X8_221 (c_ways V.l.N H.r H.l hm hr) lk_144 rfl rfl rfl rfl (Nat.le_of_ble_eq_true rfl) (by decide) ⟨Nat.le_refl _, Nat.le_refl _⟩ (fun r23 M23 q23 => ?_)
  rw [q23.1, q23.2]
  refine wf_iret (pc := 26) dX8_walks_26 rfl ?_
  exact ⟨rfl, H, F⟩
theorem c_sure {l : Launch} {K : CtxT} {M : Mm} {s : Sv} {B : Nat} (H : XI M s) (V : OkV B s) (hB : B ≤ 9999) {y : Int32} : Ci l K 9 mX8_sure [.ref (K.1 + 0), .int y] M (fun r M' => r = oSure s y ∧ XI M' s ∧ Fr M M') := by
  refine ci_of (L := [some (.ref (K.1 + 0)), some (.int y)]) (by decide +kernel) (Nat.le_of_ble_eq_true rfl) rfl rfl (fun E => ?_)
  refine wp_aload_n (pc := 0) dX8_sure_0 rfl ?_
  refine wf_getR (pc := 1) dX8_sure_1 fl_X8_27 lk_0 (H.r 0 3 14 rfl) ?_
  refine wp_iload_n (pc := 4) dX8_sure_4 rfl ?_
  refine wf_callVi (pc := 5) dX8_sure_5 cl_X8_143 (c_hasMan IL_14 H.r V.l.N H.l) IL_14.1 rfl rfl rfl rfl (Nat.le_of_ble_eq_true rfl) (by decide) ⟨Nat.le_refl _, Nat.le_refl _⟩ (fun r5 M5 q5 => ?_)
  rw [q5.1, q5.2]
  refine wp_if_ne (pc := 8) 13 dX8_sure_8 (by decide) (fun h8 => ?_) (fun h8 => ?_)
  · have h8 := b2i_1 h8
    obtain ⟨m, hm, em⟩ := inD_of (by assumption) (show lM s.Λ < 2 ^ 31 by have := V.l.N.2.1; omega)
    have hm4 : m < 5 := Nat.lt_of_lt_of_le hm V.l.N.2.1
    subst em
    refine wp_aload_n (pc := 13) dX8_sure_13 rfl ?_
    refine wf_getR (pc := 14) dX8_sure_14 fl_X8_65 lk_0 (H.r 0 9 144 rfl) ?_
    refine wp_aload_n (pc := 17) dX8_sure_17 rfl ?_
    refine wf_getR (pc := 18) dX8_sure_18 fl_X8_27 lk_0 (H.r 0 3 14 rfl) ?_
    refine wp_aload_n (pc := 21) dX8_sure_21 rfl ?_
    refine wf_getR (pc := 22) dX8_sure_22 fl_X8_34 lk_0 (H.r 0 4 19 rfl) ?_
    refine wf_callVv (pc := 25) dX8_sure_25 cl_X8_218 (c_look H.r V.l H.l H.p V.p V.s H.s) lk_144 rfl rfl rfl rfl (Nat.le_of_ble_eq_true rfl) (by decide) ⟨Nat.le_refl _, Nat.le_refl _⟩ (fun M25 q25 => ?_)
    have F : Fr M M25 := q25.1.fr (by decide)
    have hm0 : ∀ j, j < lM s.Λ → M25.1 148 j = nI (mySh s j) ∧ mySh s j < 32 := fun j hj => ⟨q25.2.2 j hj, mayN_32 _ _ _ _ _ V.l.1⟩
    have hr : ∀ d, d < lD s.Λ → M25.1 149 d = nI (rmN s.Λ d) ∧ rmN s.Λ d ≤ 3 := fun d hd => by have := room_ok V.l H.l hd; rw [q25.2.1 d (Nat.lt_of_lt_of_le hd V.l.1)]; exact this
    have H := H.scr q25.1 (by omega)
    refine wp_aload_n (pc := 28) dX8_sure_28 rfl ?_
    refine wf_getR (pc := 29) dX8_sure_29 fl_X8_65 lk_0 (H.r 0 9 144 rfl) ?_
    refine wp_aload_n (pc := 32) dX8_sure_32 rfl ?_
    refine wf_getR (pc := 33) dX8_sure_33 fl_X8_27 lk_0 (H.r 0 3 14 rfl) ?_
    refine wp_iload_n (pc := 36) dX8_sure_36 rfl ?_
    refine wf_callVi (pc := 37) dX8_sure_37 cl_X8_224 (c_onlyCompany V.l.N H.r H.l hm0 hr hm) lk_144 rfl rfl rfl rfl (Nat.le_of_ble_eq_true rfl) (by decide) ⟨Nat.le_refl _, Nat.le_refl _⟩ (fun r37 M37 q37 => ?_)
    have F := F.tr (q37.2.fr (by decide))
    have H := H.scr q37.2 (by omega)
    refine wf_iret (pc := 40) dX8_sure_40 rfl ?_
    unfold oSure; rw [if_pos h8, nI_cl (by omega)]
    exact ⟨q37.1, H, F⟩
  · have h8 := b2i_0 h8
    refine wp_ic (pc := 11) (x := (-1)) dX8_sure_11 ic_m1 ?_
    refine wf_iret (pc := 12) dX8_sure_12 rfl ?_
    unfold oSure; rw [if_neg (by rw [h8]; decide)]
    exact ⟨rfl, H, Fr.rf⟩
