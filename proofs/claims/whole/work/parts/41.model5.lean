theorem c_begin {l : Launch} {K : CtxT} {M : Mm} (hR : RS M) {P : Pg} (hP : MT M 158 0 P) : Cv l K 0 mX9_begin [.ref (K.1 + 150)] M (fun M' => MT M' 159 0 P ∧ Sm 159 160 M M') := by
  refine cv_of (L := [some (.ref (K.1 + 150)), none]) (by decide +kernel) (Nat.le_of_ble_eq_true rfl) rfl rfl (fun E => ?_)
  have loop : ∀ (n k : Nat) (M1 : Mm), n = 25 - k → k ≤ 25 → (∀ j, j < k → M1.1 159 j = P j) → Sm 159 160 M M1 → Wp E K mX9_begin 0 (0, 0) 2 [some (.ref (K.1 + 150)), some (.int (nI k))] [] 168 M1 0 0 (zV E K (fun M' => MT M' 159 0 P ∧ Sm 159 160 M M')) := by
    intro n
    induction n with
    | zero =>
      intro k M1 hn hm hd s1
      refine wp_iload_n (pc := 2) dX9_begin_2 rfl ?_
      refine wp_bipush (pc := 3) (x := nI 25) dX9_begin_3 bp_25 ?_
      refine wp_icmp_ge (pc := 5) 26 dX9_begin_5 (by decide) (fun h5 => ?_) (fun h5 => ?_)
      · have e : k = 25 := by omega
        subst e
        refine wf_vret (pc := 26) dX9_begin_26 rfl ?_
        exact ⟨fun j hj => by rw [Nat.zero_add]; exact hd j hj, s1⟩
      · exact absurd (nI_le (by omega) (by omega)) h5
    | succ n ih =>
      intro k M1 hn hm hd s1
      refine wp_iload_n (pc := 2) dX9_begin_2 rfl ?_
      refine wp_bipush (pc := 3) (x := nI 25) dX9_begin_3 bp_25 ?_
      refine wp_icmp_ge (pc := 5) 26 dX9_begin_5 (by decide) (fun h5 => ?_) (fun h5 => ?_)
      · exact absurd h5 (nI_ge (by omega) (by omega))
      · refine wp_aload_n (pc := 8) dX9_begin_8 rfl ?_
        refine wf_getR (pc := 9) dX9_begin_9 fl_X9_38 lk_150 ((s1.rs hR) 150 17 159 rfl) ?_
        refine wp_iload_n (pc := 12) dX9_begin_12 rfl ?_
        refine wp_aload_n (pc := 13) dX9_begin_13 rfl ?_
        refine wf_getR (pc := 14) dX9_begin_14 fl_X9_35 lk_150 ((s1.rs hR) 150 16 158 rfl) ?_
        refine wp_iload_n (pc := 17) dX9_begin_17 rfl ?_
        refine wf_iald (pc := 18) (j := k) dX9_begin_18 lk_158 rfl (by omega) ?_
        refine wf_iast (pc := 19) (j := k) dX9_begin_19 lk_159 rfl (by omega) ?_
        refine wp_iinc1 (pc := 20) (L' := [_, _]) dX9_begin_20 rfl rfl rfl ?_
        refine wp_goto (pc := 23) 2 dX9_begin_23 (by decide) ?_
        refine ih (k + 1) _ (by omega) (by omega) (fun j hj => ?_) (s1.tr (Sm.w (by omega) (by omega)))
        by_cases e : j = k
        · subst e; rw [wI_at]; exact (s1.2 158 (by omega) j).trans (hP.at (by omega))
        · rw [wI_nk e]; exact hd j (by omega)
  refine wp_ic (pc := 0) (x := nI 0) dX9_begin_0 ic_0 ?_
  refine wp_istore_n (pc := 1) (L' := [_, _]) dX9_begin_1 (Nat.le_of_ble_eq_true rfl) rfl rfl ?_
  exact loop 25 0 M (by omega) (by omega) (fun j hj => absurd hj (Nat.not_lt_zero _)) Sm.rf
theorem cm_caught {l : Launch} {K : CtxT} {M : Mm} {s : Sv} {B : Nat} (H : XM M s) (V : OkV B s) (hB : B ≤ 9999) {x : Int32} : Ci l K 2 mX9_caught [.ref (K.1 + 150), .int x] M (fun r M' => r = oCaught s x ∧ XM M' s ∧ Fm M M') := by
  refine ci_of (L := [some (.ref (K.1 + 150)), some (.int x), none, none]) (by decide +kernel) (Nat.le_of_ble_eq_true rfl) rfl rfl (fun E => ?_)
  have hh := V.h
  have loop : ∀ n, n ≤ 24 → ∀ (n' k : Nat) (M1 : Mm), n' = n - k → k ≤ n → XM M1 s → Fm M M1 → MT M1 159 0 (tryP s.Λ s.P s.h 0 (lLe s.Λ) k).2 → Wp E K mX9_caught 2 (0, 0) 28 [some (.ref (K.1 + 150)), some (.int (nI n)), some (.int (tryP s.Λ s.P s.h 0 (lLe s.Λ) k).1), some (.int (nI k))] [] 168 M1 0 0 (zI E K (fun r M' => r = oCaught s (nI n) ∧ XM M' s ∧ Fm M M')) := by
    intro n hn24 n'
    induction n' with
    | zero =>
      intro k M1 hn hk H F hd
      refine wp_iload_n (pc := 28) dX9_caught_28 rfl ?_
      refine wp_iload_n (pc := 29) dX9_caught_29 rfl ?_
      refine wp_icmp_ge (pc := 30) 55 dX9_caught_30 (by decide) (fun h30 => ?_) (fun h30 => ?_)
      · have e : k = n := by omega
        subst e
        refine wp_iload_n (pc := 55) dX9_caught_55 rfl ?_
        refine wf_iret (pc := 56) dX9_caught_56 rfl ?_
        unfold oCaught
        rw [if_pos (rg_y (nI_nlt (Nat.zero_le _) (by omega)) (nI_nlt hn24 (by omega))), nI_cl (by omega)]
        exact ⟨rfl, H, F⟩
      · exact absurd (nI_le (by omega) (by omega)) h30
    | succ n' ih =>
      intro k M1 hn hk H F hd
      obtain ⟨o1, a, o2, o3⟩ := tryP_ok V.p V.l.N 0 (lLe s.Λ) k
      refine wp_iload_n (pc := 28) dX9_caught_28 rfl ?_
      refine wp_iload_n (pc := 29) dX9_caught_29 rfl ?_
      refine wp_icmp_ge (pc := 30) 55 dX9_caught_30 (by decide) (fun h30 => ?_) (fun h30 => ?_)
      · exact absurd h30 (nI_ge (by omega) (by omega))
      · refine wp_iload_n (pc := 33) dX9_caught_33 rfl ?_
        refine wp_aload_n (pc := 34) dX9_caught_34 rfl ?_
        refine wp_aload_n (pc := 35) dX9_caught_35 rfl ?_
        refine wf_getR (pc := 36) dX9_caught_36 fl_X9_38 lk_150 (H.r 150 17 159 rfl) ?_
        refine wp_aload_n (pc := 39) dX9_caught_39 rfl ?_
        refine wf_getI (pc := 40) dX9_caught_40 fl_X9_13 lk_150 ?_
        rw [H.w.2.2.1]
        refine wp_ic (pc := 43) (x := nI 0) dX9_caught_43 ic_0 ?_
        refine wf_callVi (pc := 44) dX9_caught_44 cl_X9_176 (c_goHourR H.r V.l.N H.w (p := 159) rfl hd (by decide) o1 (by omega)) lk_150 rfl rfl rfl rfl (Nat.le_of_ble_eq_true rfl) (by decide) ⟨Nat.le_refl _, Nat.le_refl _⟩ (fun r44 M44 q44 => ?_)
        rw [q44.1]
        have F := F.tr (q44.2.2.fm (by decide))
        have H := H.scr q44.2.2 (by omega)
        refine wp_ior (pc := 47) dX9_caught_47 ?_
        refine wp_istore_n (pc := 48) (L' := [_, _, _, _]) dX9_caught_48 (Nat.le_of_ble_eq_true rfl) rfl rfl ?_
        refine wp_iinc1 (pc := 49) (L' := [_, _, _, _]) dX9_caught_49 rfl rfl rfl ?_
        refine wp_goto (pc := 52) 28 dX9_caught_52 (by decide) ?_
        exact ih (k + 1) M44 (by omega) (by omega) H F q44.2.1
  refine wp_aload_n (pc := 0) dX9_caught_0 rfl ?_
  refine wp_ic (pc := 1) (x := nI 0) dX9_caught_1 ic_0 ?_
  refine wf_putI (pc := 2) dX9_caught_2 fl_X9_66 lk_150 ?_
  have F : Fm M (wI M 150 0 (nI 0)) := Fm.w (by decide)
  have H := H.f (k := 0) (nI 0) (by decide)
  generalize wI M 150 0 (nI 0) = M5 at H F ⊢
  refine wp_iload_n (pc := 5) dX9_caught_5 rfl ?_
  refine wp_i2l (pc := 6) dX9_caught_6 ?_
  refine wp_lconst (pc := 7) dX9_caught_7 rfl ?_
  refine wp_ldc2 (pc := 8) dX9_caught_8 kc_X9_180 ?_
  refine wf_callSi (pc := 11) dX9_caught_11 cl_X9_72 (c_inR 0 24 rfl (by decide)) rfl rfl (Nat.le_of_ble_eq_true rfl) (by decide) ⟨Nat.le_refl _, Nat.le_refl _⟩ (fun r11 M11 q11 => ?_)
  rw [q11.1, q11.2]
  refine wp_if_ne (pc := 14) 20 dX9_caught_14 (by decide) (fun h14 => ?_) (fun h14 => ?_)
  · have h14 := b2i_1 h14
    obtain ⟨n, -, hn, ex⟩ := rg_of h14 (by decide) (by decide)
    subst ex
    refine wp_aload_n (pc := 20) dX9_caught_20 rfl ?_
    refine wf_callVv (pc := 21) dX9_caught_21 cl_X9_182 (c_begin H.r H.p) lk_150 rfl rfl rfl rfl (Nat.le_of_ble_eq_true rfl) (by decide) ⟨Nat.le_refl _, Nat.le_refl _⟩ (fun M21 q21 => ?_)
    have F := F.tr (q21.2.fm (by decide))
    have H := H.scr q21.2 (by omega)
    refine wp_ic (pc := 24) (x := nI 0) dX9_caught_24 ic_0 ?_
    refine wp_istore_n (pc := 25) (L' := [_, _, _, _]) dX9_caught_25 (Nat.le_of_ble_eq_true rfl) rfl rfl ?_
    refine wp_ic (pc := 26) (x := nI 0) dX9_caught_26 ic_0 ?_
    refine wp_istore_n (pc := 27) (L' := [_, _, _, _]) dX9_caught_27 (Nat.le_of_ble_eq_true rfl) rfl rfl ?_
    exact loop n hn n 0 M21 (by omega) (by omega) H F q21.1
  · have h14 := b2i_0 h14
    refine wp_bipush (pc := 17) (x := (-2)) dX9_caught_17 bp_m2 ?_
    refine wf_iret (pc := 19) dX9_caught_19 rfl ?_
    unfold oCaught; rw [h14]
    exact ⟨rfl, H, F⟩
theorem cm_pays {l : Launch} {K : CtxT} {M : Mm} {s : Sv} {B : Nat} (H : XM M s) (V : OkV B s) (hB : B ≤ 9999) {x y : Int32} : Ci l K 2 mX9_pays [.ref (K.1 + 150), .int x, .int y] M (fun r M' => r = oPays s x y ∧ XM M' s ∧ Fm M M') := by
  refine ci_of (L := [some (.ref (K.1 + 150)), some (.int x), some (.int y), none]) (by decide +kernel) (Nat.le_of_ble_eq_true rfl) rfl rfl (fun E => ?_)
  have hh := V.h
  have loop : ∀ u n, u ≤ 12 → n ≤ 24 → ∀ (n' k : Nat) (M1 : Mm), n' = n - k → k ≤ n → XM M1 s → Fm M M1 → MT M1 159 0 (tryP s.Λ s.P s.h 0 (nI u) k).2 → Wp E K mX9_pays 2 (0, 0) 38 [some (.ref (K.1 + 150)), some (.int (nI u)), some (.int (nI n)), some (.int (nI k))] [] 168 M1 0 0 (zI E K (fun r M' => r = oPays s (nI u) (nI n) ∧ XM M' s ∧ Fm M M')) := by
    intro u n hu hn24 n'
    induction n' with
    | zero =>
      intro k M1 hn hk H F hd
      refine wp_iload_n (pc := 38) dX9_pays_38 rfl ?_
      refine wp_iload_n (pc := 39) dX9_pays_39 rfl ?_
      refine wp_icmp_ge (pc := 40) 60 dX9_pays_40 (by decide) (fun h40 => ?_) (fun h40 => ?_)
      · have e : k = n := by omega
        subst e
        have o := tryP_ok V.p V.l.N 0 (nI u) k
        refine wp_aload_n (pc := 60) dX9_pays_60 rfl ?_
        refine wf_getR (pc := 61) dX9_pays_61 fl_X9_38 lk_150 (H.r 150 17 159 rfl) ?_
        refine wf_callSi (pc := 64) dX9_pays_64 cl_X9_146 (c_bonesOf (p := 159) rfl hd) rfl rfl (Nat.le_of_ble_eq_true rfl) (by decide) ⟨Nat.le_refl _, Nat.le_refl _⟩ (fun r64 M64 q64 => ?_)
        rw [q64.1, q64.2]
        refine wp_aload_n (pc := 67) dX9_pays_67 rfl ?_
        refine wf_getR (pc := 68) dX9_pays_68 fl_X9_35 lk_150 (H.r 150 16 158 rfl) ?_
        refine wf_callSi (pc := 71) dX9_pays_71 cl_X9_146 (c_bonesOf (p := 158) rfl H.p) rfl rfl (Nat.le_of_ble_eq_true rfl) (by decide) ⟨Nat.le_refl _, Nat.le_refl _⟩ (fun r71 M71 q71 => ?_)
        rw [q71.1, q71.2]
        refine wp_isub (pc := 74) dX9_pays_74 ?_
        refine wf_iret (pc := 75) dX9_pays_75 rfl ?_
        unfold oPays
        rw [if_pos ⟨rg_y (nI_nlt (Nat.zero_le _) (by omega)) (nI_nlt hu (by omega)), rg_y (nI_nlt (Nat.zero_le _) (by omega)) (nI_nlt hn24 (by omega))⟩, nI_cl (by omega), sumB_4 o.1 V.l.N, sumB_4 V.p V.l.N]
        exact ⟨rfl, H, F⟩
      · exact absurd (nI_le (by omega) (by omega)) h40
    | succ n' ih =>
      intro k M1 hn hk H F hd
      obtain ⟨o1, a, o2, o3⟩ := tryP_ok V.p V.l.N 0 (nI u) k
      refine wp_iload_n (pc := 38) dX9_pays_38 rfl ?_
      refine wp_iload_n (pc := 39) dX9_pays_39 rfl ?_
      refine wp_icmp_ge (pc := 40) 60 dX9_pays_40 (by decide) (fun h40 => ?_) (fun h40 => ?_)
      · exact absurd h40 (nI_ge (by omega) (by omega))
      · refine wp_aload_n (pc := 43) dX9_pays_43 rfl ?_
        refine wp_aload_n (pc := 44) dX9_pays_44 rfl ?_
        refine wf_getR (pc := 45) dX9_pays_45 fl_X9_38 lk_150 (H.r 150 17 159 rfl) ?_
        refine wp_iload_n (pc := 48) dX9_pays_48 rfl ?_
        refine wp_ic (pc := 49) (x := nI 0) dX9_pays_49 ic_0 ?_
        refine wf_callVi (pc := 50) dX9_pays_50 cl_X9_176 (c_goHourR H.r V.l.N H.w (p := 159) rfl hd (by decide) o1 (by omega)) lk_150 rfl rfl rfl rfl (Nat.le_of_ble_eq_true rfl) (by decide) ⟨Nat.le_refl _, Nat.le_refl _⟩ (fun r50 M50 q50 => ?_)
        have F := F.tr (q50.2.2.fm (by decide))
        have H := H.scr q50.2.2 (by omega)
        refine wp_pop (pc := 53) dX9_pays_53 rfl ?_
        refine wp_iinc1 (pc := 54) (L' := [_, _, _, _]) dX9_pays_54 rfl rfl rfl ?_
        refine wp_goto (pc := 57) 38 dX9_pays_57 (by decide) ?_
        exact ih (k + 1) M50 (by omega) (by omega) H F q50.2.1
  refine wp_aload_n (pc := 0) dX9_pays_0 rfl ?_
  refine wp_ic (pc := 1) (x := nI 0) dX9_pays_1 ic_0 ?_
  refine wf_putI (pc := 2) dX9_pays_2 fl_X9_66 lk_150 ?_
  have F : Fm M (wI M 150 0 (nI 0)) := Fm.w (by decide)
  have H := H.f (k := 0) (nI 0) (by decide)
  generalize wI M 150 0 (nI 0) = M5 at H F ⊢
  refine wp_iload_n (pc := 5) dX9_pays_5 rfl ?_
  refine wp_i2l (pc := 6) dX9_pays_6 ?_
  refine wp_lconst (pc := 7) dX9_pays_7 rfl ?_
  refine wp_ldc2 (pc := 8) dX9_pays_8 kc_X9_206 ?_
  refine wf_callSi (pc := 11) dX9_pays_11 cl_X9_72 (c_inR 0 12 rfl (by decide)) rfl rfl (Nat.le_of_ble_eq_true rfl) (by decide) ⟨Nat.le_refl _, Nat.le_refl _⟩ (fun r11 M11 q11 => ?_)
  rw [q11.1, q11.2]
  refine wp_if_eq (pc := 14) 29 dX9_pays_14 (by decide) (fun h14 => ?_) (fun h14 => ?_)
  · have h14 := b2i_0 h14
    have e : ¬ (rg 0 12 x = true ∧ rg 0 24 y = true) := fun q => by rw [h14] at q; cases q.1
    refine wp_bipush (pc := 29) (x := (-2)) dX9_pays_29 bp_m2 ?_
    refine wf_iret (pc := 31) dX9_pays_31 rfl ?_
    unfold oPays; rw [if_neg e]
    exact ⟨rfl, H, F⟩
  · have h14 := b2i_1 h14
    refine wp_iload_n (pc := 17) dX9_pays_17 rfl ?_
    refine wp_i2l (pc := 18) dX9_pays_18 ?_
    refine wp_lconst (pc := 19) dX9_pays_19 rfl ?_
    refine wp_ldc2 (pc := 20) dX9_pays_20 kc_X9_180 ?_
    refine wf_callSi (pc := 23) dX9_pays_23 cl_X9_72 (c_inR 0 24 rfl (by decide)) rfl rfl (Nat.le_of_ble_eq_true rfl) (by decide) ⟨Nat.le_refl _, Nat.le_refl _⟩ (fun r23 M23 q23 => ?_)
    rw [q23.1, q23.2]
    refine wp_if_ne (pc := 26) 32 dX9_pays_26 (by decide) (fun h26 => ?_) (fun h26 => ?_)
    · have h26 := b2i_1 h26
      have e : rg 0 12 x = true ∧ rg 0 24 y = true := ⟨h14, h26⟩
      obtain ⟨u, -, hu, ex⟩ := rg_of h14 (by decide) (by decide)
      obtain ⟨n, -, hn, ey⟩ := rg_of h26 (by decide) (by decide)
      subst ex ey
      refine wp_aload_n (pc := 32) dX9_pays_32 rfl ?_
      refine wf_callVv (pc := 33) dX9_pays_33 cl_X9_182 (c_begin H.r H.p) lk_150 rfl rfl rfl rfl (Nat.le_of_ble_eq_true rfl) (by decide) ⟨Nat.le_refl _, Nat.le_refl _⟩ (fun M33 q33 => ?_)
      have F := F.tr (q33.2.fm (by decide))
      have H := H.scr q33.2 (by omega)
      refine wp_ic (pc := 36) (x := nI 0) dX9_pays_36 ic_0 ?_
      refine wp_istore_n (pc := 37) (L' := [_, _, _, _]) dX9_pays_37 (Nat.le_of_ble_eq_true rfl) rfl rfl ?_
      exact loop u n hu hn n 0 M33 (by omega) (by omega) H F q33.1
    · have h26 := b2i_0 h26
      have e : ¬ (rg 0 12 x = true ∧ rg 0 24 y = true) := fun q => by rw [h26] at q; cases q.2
      refine wp_bipush (pc := 29) (x := (-2)) dX9_pays_29 bp_m2 ?_
      refine wf_iret (pc := 31) dX9_pays_31 rfl ?_
      unfold oPays; rw [if_neg e]
      exact ⟨rfl, H, F⟩
theorem cm_unsee {l : Launch} {K : CtxT} {M : Mm} {s : Sv} {B : Nat} (H : XM M s) (V : OkV B s) (hB : B ≤ 9999) : Ci l K 0 mX9_unsee [.ref (K.1 + 150)] M (fun r M' => r = nI s.σ.1 ∧ XM M' (s.seen (0, s.σ.2)) ∧ Fm M M') := by
  refine ci_of (L := [some (.ref (K.1 + 150)), none]) (by decide +kernel) (Nat.le_of_ble_eq_true rfl) rfl rfl (fun E => ?_)
  refine wp_aload_n (pc := 0) dX9_unsee_0 rfl ?_
  refine wp_ic (pc := 1) (x := nI 0) dX9_unsee_1 ic_0 ?_
  refine wf_putI (pc := 2) dX9_unsee_2 fl_X9_66 lk_150 ?_
  have F : Fm M (wI M 150 0 (nI 0)) := Fm.w (by decide)
  have H := H.f (k := 0) (nI 0) (by decide)
  generalize wI M 150 0 (nI 0) = M5 at H F ⊢
  refine wp_aload_n (pc := 5) dX9_unsee_5 rfl ?_
  refine wf_getI (pc := 6) dX9_unsee_6 fl_X9_150 lk_150 ?_
  rw [H.s.1]
  refine wp_istore_n (pc := 9) (L' := [_, _]) dX9_unsee_9 (Nat.le_of_ble_eq_true rfl) rfl rfl ?_
  refine wp_aload_n (pc := 10) dX9_unsee_10 rfl ?_
  refine wp_ic (pc := 11) (x := nI 0) dX9_unsee_11 ic_0 ?_
  refine wf_putI (pc := 12) dX9_unsee_12 fl_X9_150 lk_150 ?_
  refine wp_iload_n (pc := 15) dX9_unsee_15 rfl ?_
  refine wf_iret (pc := 16) dX9_unsee_16 rfl ?_
  have F := F.tr (Fm.w (M := M5) (a := 150) (k := 22) (x := nI 0) (by decide))
  obtain ⟨h1, h2, h4, h5, h6, h7, h8, h9⟩ := H
  exact ⟨rfl, ⟨h1, h2, h4, h5, h6, h7, ⟨wI_at _ _ _ _, fun k hk => absurd hk (Nat.not_lt_zero _)⟩, h9⟩, F⟩
