theorem c_readHead {l : Launch} {K : CtxT} {M : Mm} {T : Pg} {n k : Nat} {σ0 : Rs} {l0 q : Nat} {Λ : Lw} {P : Pg} (hR : RS M) (h : RT M T n 1) (hs : rnS σ0 T 1 = some (76, 1, q, Λ, P)) (g1 : M.1 150 10 = nI 0) (g2 : M.1 150 11 = nI 0) (hD : lD Λ = 0) (hM : lM Λ = 0) (z : ZP P) : Ci l K 2 mX9_readHead [.ref (K.1 + 150)] M (PO σ0 T n M 1) := by
  refine ci_of (L := [some (.ref (K.1 + 150)), none, none, none]) (by decide +kernel) (Nat.le_of_ble_eq_true rfl) rfl rfl (fun E => ?_)
  have hn := h.2.2.2.1
  have loop : ∀ (a b : Nat), a ≤ 1 → 10 * a + b ≤ 12 → ∀ (q' i : Nat) (M1 : Mm) (Λ1 : Lw), q' = 4 - i → i ≤ 4 → RT M1 T n (3 + i) → Sq M M1 → M1.1 150 10 = nI 0 → M1.1 150 11 = nI 0 → M1.1 150 12 = nI (10 * a + b) → (∀ j, j < i → M1.1 155 j = lRo Λ1 j ∧ ∃ s, s < 5 ∧ lRo Λ1 j = nI s) → rnS σ0 T (3 + i) = some (if 3 + i = 7 then 1 else 76, 3 + i, q, Λ1, P) → lD Λ1 = 0 → lM Λ1 = 0 → lLe Λ1 = nI (10 * a + b) → Wp E K mX9_readHead 2 (0, 0) 55 [some (.ref (K.1 + 150)), some (.int (nI a)), some (.int (nI b)), some (.int (nI i))] [] 168 M1 0 0 (zI E K (PO σ0 T n M 1)) := by
    intro a b ha hab q'
    induction q' with
    | zero =>
      intro i M1 Λ1 hq hi h1 sq k1 k2 k3 hro hs1 hD1 hM1 hLe
      refine wp_iload_n (pc := 55) dX9_readHead_55 rfl ?_
      refine wp_ic (pc := 56) (x := nI 4) dX9_readHead_56 ic_4 ?_
      refine wp_icmp_ge (pc := 57) 91 dX9_readHead_57 (by decide) (fun h57 => ?_) (fun h57 => ?_)
      · refine wp_ic (pc := 91) (x := nI 1) dX9_readHead_91 ic_1 ?_
        refine wf_zret (pc := 92) (true) dX9_readHead_92 rfl rfl ?_
        have ei : i = 4 := by omega
        subst ei
        exact ⟨sq, Or.inr ⟨rfl, 7, by decide, h1, 7, q, Λ1, P, hs1, ⟨⟨by rw [hD1]; exact k1, by rw [hM1]; exact k2, k3.trans hLe.symm⟩, fun j hj => (hro j hj).1, fun d hd => by omega, fun m hm => by omega⟩, OkF_head hD1 hM1 hab hLe (fun j hj => (hro j hj).2) z⟩⟩
      · exact absurd (nI_le (by omega) (by omega)) h57
    | succ q' ih =>
      intro i M1 Λ1 hq hi h1 sq k1 k2 k3 hro hs1 hD1 hM1 hLe
      rw [if_neg (show ¬ 3 + i = 7 by omega)] at hs1
      have hfl := fgN_le (byt T (3 + i))
      refine wp_iload_n (pc := 55) dX9_readHead_55 rfl ?_
      refine wp_ic (pc := 56) (x := nI 4) dX9_readHead_56 ic_4 ?_
      refine wp_icmp_ge (pc := 57) 91 dX9_readHead_57 (by decide) (fun h57 => ?_) (fun h57 => ?_)
      · exact absurd h57 (nI_ge (by omega) (by omega))
      · refine wp_aload_n (pc := 60) dX9_readHead_60 rfl ?_
        refine wf_getR (pc := 61) dX9_readHead_61 fl_X9_26 lk_150 ((sq.rs hR) 150 13 155 rfl) ?_
        refine wp_iload_n (pc := 64) dX9_readHead_64 rfl ?_
        refine wp_aload_n (pc := 65) dX9_readHead_65 rfl ?_
        refine wp_ic (pc := 66) (x := nI 0) dX9_readHead_66 ic_0 ?_
        refine wp_ic (pc := 67) (x := nI 4) dX9_readHead_67 ic_4 ?_
        refine wf_callVi (pc := 68) dX9_readHead_68 cl_X9_93 (c_figR (sq.rs hR) h1 (a := 0) (b := 4) (by decide) (by decide)) lk_150 rfl rfl rfl rfl (Nat.le_of_ble_eq_true rfl) (by decide) ⟨Nat.le_refl _, Nat.le_refl _⟩ (fun r68 M68 q68 => ?_)
        refine wf_iast (pc := 71) (j := i) dX9_readHead_71 lk_155 rfl (by omega) ?_
        refine wp_aload_n (pc := 72) dX9_readHead_72 rfl ?_
        refine wf_getR (pc := 73) dX9_readHead_73 fl_X9_26 lk_150 (by first | exact (sq.rs hR) 150 13 155 rfl | (have e68 : M68.2 = M1.2 := (show M68.2 = M1.2 from by rcases q68 with ⟨_, e, _⟩ | ⟨_, _, _, _, e⟩ <;> rw [e] <;> rfl); exact (show (wI M68 155 i r68).2.2 150 13 = some 155 from by show M68.2.2 150 13 = some 155; rw [e68]; exact (sq.rs hR) 150 13 155 rfl))) ?_
        refine wp_iload_n (pc := 76) dX9_readHead_76 rfl ?_
        refine wf_iald (pc := 77) (j := i) dX9_readHead_77 lk_155 rfl (by omega) ?_
        rw [wI_at]
        refine wp_bipush (pc := 78) (x := (-9)) dX9_readHead_78 bp_m9 ?_
        refine wp_icmp_ne (pc := 80) 85 dX9_readHead_80 (by decide) (fun h80 => ?_) (fun h80 => ?_)
        · obtain ⟨yf, zf, xf, uf, vf⟩ := q68.y h80
          rw [uf]
          have Tf : RT M68 T n (3 + i + 1) := by rw [vf]; exact h1.nx yf
          have sqf : Sq M1 M68 := by rw [vf]; exact Sq.f (Or.inl rfl)
          obtain ⟨f, ef⟩ : ∃ x, fgN (byt T (3 + i)) = x := ⟨_, rfl⟩
          rw [ef] at zf xf ⊢
          have zf := of_decide_eq_true zf
          refine wp_iinc1 (pc := 85) (L' := [_, _, _, _]) dX9_readHead_85 rfl rfl rfl ?_
          refine wp_goto (pc := 88) 55 dX9_readHead_88 (by decide) ?_
          have hne : ∀ k, k ≠ 3 → M68.1 150 k = M1.1 150 k := fun k hk => by rw [vf, wI_nk hk]
          refine ih (i + 1) _ (lwRo Λ1 (upd (lRo Λ1) ((3 + i - 3) % 4) (nI f))) (by omega) (by omega) (Tf.mv (wI_na (by decide)) ((wI_na (by decide)).trans Tf.1.2) (fun j => wI_na (by decide)) Tf.2.2.2.2) ((sq.tr sqf).tr (Sq.w (by omega))) ((wI_na (by decide)).trans ((hne 10 (by decide)).trans k1)) ((wI_na (by decide)).trans ((hne 11 (by decide)).trans k2)) ((wI_na (by decide)).trans ((hne 12 (by decide)).trans k3)) (fun j hj => ?_) ?_ hD1 hM1 hLe
          · rw [show (3 + i - 3) % 4 = i by omega]
            show _ = upd (lRo Λ1) i (nI f) j ∧ ∃ s, s < 5 ∧ upd (lRo Λ1) i (nI f) j = nI s
            by_cases ej : j = i
            · subst ej; rw [wI_at, upd_at]; exact ⟨rfl, f, by omega, rfl⟩
            · rw [wI_nk ej, upd_n ej, vf, wI_na (by decide)]; exact hro j (by omega)
          · have hst := rn_s hs1 (stp_H (t := byt T (3 + i)) (by rw [ef, tkH_3 (by omega) (by omega), if_pos (by omega)]))
            exact hst
        · obtain ⟨w1, w2⟩ := q68.n h80
          rw [h80, w1]
          have hb : Bad σ0 T n (wI M1 155 i no9) := ⟨3 + i, h1.mv (wI_na (by decide)) ((wI_na (by decide)).trans h1.1.2) (fun j => wI_na (by decide)) h1.2.2.2.2, fl_of hs1 (by show (76 : Nat) ≠ 1; decide) h1.2.2.2.2 (fun w => stp_H0 (by rw [tkH_3 hfl (by omega), if_neg (fun q => of_decide_eq_false (w2 w) ⟨Nat.zero_le _, q⟩)]))⟩
          refine wp_ic (pc := 83) (x := nI 0) dX9_readHead_83 ic_0 ?_
          refine wf_zret (pc := 84) (false) dX9_readHead_84 rfl rfl ?_
          exact ⟨sq.tr (Sq.w (by omega)), Or.inl ⟨rfl, hb⟩⟩
  refine wp_aload_n (pc := 0) dX9_readHead_0 rfl ?_
  refine wp_ic (pc := 1) (x := nI 0) dX9_readHead_1 ic_0 ?_
  refine wp_ic (pc := 2) (x := nI 1) dX9_readHead_2 ic_1 ?_
  refine wf_callVi (pc := 3) dX9_readHead_3 cl_X9_93 (c_figR hR h (a := 0) (b := 1) (by decide) (by decide)) lk_150 rfl rfl rfl rfl (Nat.le_of_ble_eq_true rfl) (by decide) ⟨Nat.le_refl _, Nat.le_refl _⟩ (fun r3 M3 q3 => ?_)
  refine wp_istore_n (pc := 6) (L' := [_, _, _, _]) dX9_readHead_6 (Nat.le_of_ble_eq_true rfl) rfl rfl ?_
  refine wp_iload_n (pc := 7) dX9_readHead_7 rfl ?_
  refine wp_bipush (pc := 8) (x := (-9)) dX9_readHead_8 bp_m9 ?_
  refine wp_icmp_ne (pc := 10) 18 dX9_readHead_10 (by decide) (fun h10 => ?_) (fun h10 => ?_)
  · obtain ⟨ya, za, xa, ua, va⟩ := q3.y h10
    rw [ua]
    have Ta : RT M3 T n (1 + 1) := by rw [va]; exact h.nx ya
    have sqa : Sq M M3 := by rw [va]; exact Sq.f (Or.inl rfl)
    obtain ⟨a, ea⟩ : ∃ x, fgN (byt T (1)) = x := ⟨_, rfl⟩
    rw [ea] at za xa ⊢
    have za := of_decide_eq_true za
    refine wp_aload_n (pc := 18) dX9_readHead_18 rfl ?_
    refine wp_ic (pc := 19) (x := nI 0) dX9_readHead_19 ic_0 ?_
    refine wp_iload_n (pc := 20) dX9_readHead_20 rfl ?_
    refine wp_ic (pc := 21) (x := nI 1) dX9_readHead_21 ic_1 ?_
    refine wp_icmp_ne (pc := 22) 29 dX9_readHead_22 (by decide) (fun h22 => ?_) (fun h22 => ?_)
    · have ea1 : ¬ a = 1 := fun q => h22 (by rw [q])
      have hs2 := rn_s hs (stp_H (by rw [ea, tkH_1 (by omega), if_pos (by omega)]))
      have t2 : ∀ f, f ≤ 10 → tkH 2 f (lwLe Λ (nI (10 * a))) = if f ≤ 9 then some (lwLe Λ (nI (10 * a + f))) else none := fun f hf => by rw [tkH_2 hf (by omega) rfl, if_neg ea1]
      refine wp_bipush (pc := 29) (x := nI 9) dX9_readHead_29 bp_9 ?_
      refine wf_callVi (pc := 31) dX9_readHead_31 cl_X9_93 (c_figR (sqa.rs hR) Ta (a := 0) (b := 9) (by decide) (by decide)) lk_150 rfl rfl rfl rfl (Nat.le_of_ble_eq_true rfl) (by decide) ⟨Nat.le_refl _, Nat.le_refl _⟩ (fun r31 M31 q31 => ?_)
      refine wp_istore_n (pc := 34) (L' := [_, _, _, _]) dX9_readHead_34 (Nat.le_of_ble_eq_true rfl) rfl rfl ?_
      refine wp_iload_n (pc := 35) dX9_readHead_35 rfl ?_
      refine wp_bipush (pc := 36) (x := (-9)) dX9_readHead_36 bp_m9 ?_
      refine wp_icmp_ne (pc := 38) 43 dX9_readHead_38 (by decide) (fun h38 => ?_) (fun h38 => ?_)
      · obtain ⟨yb, zb, xb, ub, vb⟩ := q31.y h38
        rw [ub]
        have Tb : RT M31 T n (2 + 1) := by rw [vb]; exact Ta.nx yb
        have sqb : Sq M3 M31 := by rw [vb]; exact Sq.f (Or.inl rfl)
        obtain ⟨b, eb⟩ : ∃ x, fgN (byt T (2)) = x := ⟨_, rfl⟩
        rw [eb] at zb xb ⊢
        have zb := of_decide_eq_true zb
        refine wp_aload_n (pc := 43) dX9_readHead_43 rfl ?_
        refine wp_bipush (pc := 44) (x := nI 10) dX9_readHead_44 bp_10 ?_
        refine wp_iload_n (pc := 46) dX9_readHead_46 rfl ?_
        refine wp_imul (pc := 47) dX9_readHead_47 ?_
        refine wp_iload_n (pc := 48) dX9_readHead_48 rfl ?_
        refine wp_iadd (pc := 49) dX9_readHead_49 ?_
        refine wp_top (nI (10 * a + b)) (by rw [pk_mul, nI_add]) ?_
        refine wf_putI (pc := 50) dX9_readHead_50 fl_X9_97 lk_150 ?_
        refine wp_ic (pc := 53) (x := nI 0) dX9_readHead_53 ic_0 ?_
        refine wp_istore_n (pc := 54) (L' := [_, _, _, _]) dX9_readHead_54 (Nat.le_of_ble_eq_true rfl) rfl rfl ?_
        have hs3 := rn_s hs2 (stp_H (by rw [eb, t2 _ (by omega), if_pos (by omega)]))
        have h10a : M31.1 150 10 = nI 0 := by rw [vb, wI_nk (by decide), va, wI_nk (by decide)]; exact g1
        have h11a : M31.1 150 11 = nI 0 := by rw [vb, wI_nk (by decide), va, wI_nk (by decide)]; exact g2
        exact loop a b (by omega) (by omega) 4 0 _ (lwLe Λ (nI (10 * a + b))) (by omega) (by omega) (Tb.mv (wI_nk (by decide)) ((wI_nk (by decide)).trans Tb.1.2) (fun j => wI_na (by decide)) Tb.2.2.2.2) ((sqa.tr sqb).tr (Sq.f (by omega))) ((wI_nk (by decide)).trans h10a) ((wI_nk (by decide)).trans h11a) (wI_at _ _ _ _) (fun j hj => absurd hj (Nat.not_lt_zero _)) hs3 hD hM rfl
      · obtain ⟨w1, w2⟩ := q31.n h38
        rw [w1]
        have hsq : Sq M M3 := sqa
        have hbad : Bad σ0 T n M3 := ⟨2, Ta, fl_of hs2 (by show (76 : Nat) ≠ 1; decide) Ta.2.2.2.2 (fun w => stp_H0 (by rw [t2 _ (fgN_le _), if_neg (fun q => of_decide_eq_false (w2 w) ⟨Nat.zero_le _, q⟩)]))⟩
        refine wp_ic (pc := 41) (x := nI 0) dX9_readHead_41 ic_0 ?_
        refine wf_zret (pc := 42) (false) dX9_readHead_42 rfl rfl ?_
        exact ⟨hsq, Or.inl ⟨rfl, hbad⟩⟩
    · have ea1 : a = 1 := (nI_eq (by omega) (by omega)).mp h22
      have hs2 := rn_s hs (stp_H (by rw [ea, tkH_1 (by omega), if_pos (by omega)]))
      have t2 : ∀ f, f ≤ 10 → tkH 2 f (lwLe Λ (nI (10 * a))) = if f ≤ 2 then some (lwLe Λ (nI (10 * a + f))) else none := fun f hf => by rw [tkH_2 hf (by omega) rfl, if_pos ea1]
      refine wp_ic (pc := 25) (x := nI 2) dX9_readHead_25 ic_2 ?_
      refine wp_goto (pc := 26) 31 dX9_readHead_26 (by decide) ?_
      refine wf_callVi (pc := 31) dX9_readHead_31 cl_X9_93 (c_figR (sqa.rs hR) Ta (a := 0) (b := 2) (by decide) (by decide)) lk_150 rfl rfl rfl rfl (Nat.le_of_ble_eq_true rfl) (by decide) ⟨Nat.le_refl _, Nat.le_refl _⟩ (fun r31 M31 q31 => ?_)
      refine wp_istore_n (pc := 34) (L' := [_, _, _, _]) dX9_readHead_34 (Nat.le_of_ble_eq_true rfl) rfl rfl ?_
      refine wp_iload_n (pc := 35) dX9_readHead_35 rfl ?_
      refine wp_bipush (pc := 36) (x := (-9)) dX9_readHead_36 bp_m9 ?_
      refine wp_icmp_ne (pc := 38) 43 dX9_readHead_38 (by decide) (fun h38 => ?_) (fun h38 => ?_)
      · obtain ⟨yb, zb, xb, ub, vb⟩ := q31.y h38
        rw [ub]
        have Tb : RT M31 T n (2 + 1) := by rw [vb]; exact Ta.nx yb
        have sqb : Sq M3 M31 := by rw [vb]; exact Sq.f (Or.inl rfl)
        obtain ⟨b, eb⟩ : ∃ x, fgN (byt T (2)) = x := ⟨_, rfl⟩
        rw [eb] at zb xb ⊢
        have zb := of_decide_eq_true zb
        refine wp_aload_n (pc := 43) dX9_readHead_43 rfl ?_
        refine wp_bipush (pc := 44) (x := nI 10) dX9_readHead_44 bp_10 ?_
        refine wp_iload_n (pc := 46) dX9_readHead_46 rfl ?_
        refine wp_imul (pc := 47) dX9_readHead_47 ?_
        refine wp_iload_n (pc := 48) dX9_readHead_48 rfl ?_
        refine wp_iadd (pc := 49) dX9_readHead_49 ?_
        refine wp_top (nI (10 * a + b)) (by rw [pk_mul, nI_add]) ?_
        refine wf_putI (pc := 50) dX9_readHead_50 fl_X9_97 lk_150 ?_
        refine wp_ic (pc := 53) (x := nI 0) dX9_readHead_53 ic_0 ?_
        refine wp_istore_n (pc := 54) (L' := [_, _, _, _]) dX9_readHead_54 (Nat.le_of_ble_eq_true rfl) rfl rfl ?_
        have hs3 := rn_s hs2 (stp_H (by rw [eb, t2 _ (by omega), if_pos (by omega)]))
        have h10a : M31.1 150 10 = nI 0 := by rw [vb, wI_nk (by decide), va, wI_nk (by decide)]; exact g1
        have h11a : M31.1 150 11 = nI 0 := by rw [vb, wI_nk (by decide), va, wI_nk (by decide)]; exact g2
        exact loop a b (by omega) (by omega) 4 0 _ (lwLe Λ (nI (10 * a + b))) (by omega) (by omega) (Tb.mv (wI_nk (by decide)) ((wI_nk (by decide)).trans Tb.1.2) (fun j => wI_na (by decide)) Tb.2.2.2.2) ((sqa.tr sqb).tr (Sq.f (by omega))) ((wI_nk (by decide)).trans h10a) ((wI_nk (by decide)).trans h11a) (wI_at _ _ _ _) (fun j hj => absurd hj (Nat.not_lt_zero _)) hs3 hD hM rfl
      · obtain ⟨w1, w2⟩ := q31.n h38
        rw [w1]
        have hsq : Sq M M3 := sqa
        have hbad : Bad σ0 T n M3 := ⟨2, Ta, fl_of hs2 (by show (76 : Nat) ≠ 1; decide) Ta.2.2.2.2 (fun w => stp_H0 (by rw [t2 _ (fgN_le _), if_neg (fun q => of_decide_eq_false (w2 w) ⟨Nat.zero_le _, q⟩)]))⟩
        refine wp_ic (pc := 41) (x := nI 0) dX9_readHead_41 ic_0 ?_
        refine wf_zret (pc := 42) (false) dX9_readHead_42 rfl rfl ?_
        exact ⟨hsq, Or.inl ⟨rfl, hbad⟩⟩
  · obtain ⟨w1, w2⟩ := q3.n h10
    rw [w1]
    have hsq : Sq M M := Sq.rf
    have hbad : Bad σ0 T n M := ⟨1, h, fl_of hs (by show (76 : Nat) ≠ 1; decide) h.2.2.2.2 (fun w => stp_H0 (by rw [tkH_1 (fgN_le _), if_neg (fun q => of_decide_eq_false (w2 w) ⟨Nat.zero_le _, q⟩)]))⟩
    refine wp_bipush (pc := 13) (x := (-9)) dX9_readHead_13 bp_m9 ?_
    refine wp_goto (pc := 15) 34 dX9_readHead_15 (by decide) ?_
    refine wp_istore_n (pc := 34) (L' := [_, _, _, _]) dX9_readHead_34 (Nat.le_of_ble_eq_true rfl) rfl rfl ?_
    refine wp_iload_n (pc := 35) dX9_readHead_35 rfl ?_
    refine wp_bipush (pc := 36) (x := (-9)) dX9_readHead_36 bp_m9 ?_
    refine wp_icmp_ne (pc := 38) 43 dX9_readHead_38 (by decide) (fun h38 => ?_) (fun h38 => ?_)
    · exact absurd rfl h38
    · refine wp_ic (pc := 41) (x := nI 0) dX9_readHead_41 ic_0 ?_
      refine wf_zret (pc := 42) (false) dX9_readHead_42 rfl rfl ?_
      exact ⟨hsq, Or.inl ⟨rfl, hbad⟩⟩
theorem c_readDog {l : Launch} {K : CtxT} {M : Mm} {T : Pg} {n k : Nat} {σ0 : Rs} {l0 q : Nat} {Λ : Lw} {P : Pg} (hR : RS M) (h : RT M T n (k + 1)) (hs : rnS σ0 T (k + 1) = some (68, 1, q, Λ, P)) (hX : XQ M Λ P) (hF : OkF Λ P) (hD : lD Λ < 4) : Ci l K 2 mX9_readDog [.ref (K.1 + 150)] M (PO σ0 T n M k) := by
  refine ci_of (L := [some (.ref (K.1 + 150)), none, none, none, none]) (by decide +kernel) (Nat.le_of_ble_eq_true rfl) rfl rfl (fun E => ?_)
  have hn := h.2.2.2.1
  refine wp_ic (pc := 0) (x := nI 4) dX9_readDog_0 ic_4 ?_
  refine wp_aload_n (pc := 1) dX9_readDog_1 rfl ?_
  refine wf_getI (pc := 2) dX9_readDog_2 fl_X9_100 lk_150 ?_
  rw [hX.1.1]
  refine wp_top (nI (lD Λ)) rfl ?_
  refine wp_imul (pc := 5) dX9_readDog_5 ?_
  refine wp_top (nI (4 * lD Λ)) (pk_mul _ _) ?_
  refine wp_istore_n (pc := 6) (L' := [_, _, _, _, _]) dX9_readDog_6 (Nat.le_of_ble_eq_true rfl) rfl rfl ?_
  refine wp_aload_n (pc := 7) dX9_readDog_7 rfl ?_
  refine wp_ic (pc := 8) (x := nI 0) dX9_readDog_8 ic_0 ?_
  refine wp_ic (pc := 9) (x := nI 4) dX9_readDog_9 ic_4 ?_
  refine wf_callVi (pc := 10) dX9_readDog_10 cl_X9_93 (c_figR hR h (a := 0) (b := 4) (by decide) (by decide)) lk_150 rfl rfl rfl rfl (Nat.le_of_ble_eq_true rfl) (by decide) ⟨Nat.le_refl _, Nat.le_refl _⟩ (fun r10 M10 q10 => ?_)
  refine wp_istore_n (pc := 13) (L' := [_, _, _, _, _]) dX9_readDog_13 (Nat.le_of_ble_eq_true rfl) rfl rfl ?_
  refine wp_iload_n (pc := 14) dX9_readDog_14 rfl ?_
  refine wp_bipush (pc := 15) (x := (-9)) dX9_readDog_15 bp_m9 ?_
  refine wp_icmp_ne (pc := 17) 25 dX9_readDog_17 (by decide) (fun h17 => ?_) (fun h17 => ?_)
  · obtain ⟨ys, zs, xs, us, vs⟩ := q10.y h17
    rw [us]
    have Ts : RT M10 T n (k + 1 + 1) := by rw [vs]; exact h.nx ys
    have sqs : Sq M M10 := by rw [vs]; exact Sq.f (Or.inl rfl)
    obtain ⟨s, es⟩ : ∃ x, fgN (byt T (k + 1)) = x := ⟨_, rfl⟩
    rw [es] at zs xs ⊢
    have zs := of_decide_eq_true zs
    refine wp_aload_n (pc := 25) dX9_readDog_25 rfl ?_
    refine wp_ic (pc := 26) (x := nI 0) dX9_readDog_26 ic_0 ?_
    refine wp_bipush (pc := 27) (x := nI 9) dX9_readDog_27 bp_9 ?_
    refine wf_callVi (pc := 29) dX9_readDog_29 cl_X9_93 (c_figR (sqs.rs hR) Ts (a := 0) (b := 9) (by decide) (by decide)) lk_150 rfl rfl rfl rfl (Nat.le_of_ble_eq_true rfl) (by decide) ⟨Nat.le_refl _, Nat.le_refl _⟩ (fun r29 M29 q29 => ?_)
    refine wp_istore_n (pc := 32) (L' := [_, _, _, _, _]) dX9_readDog_32 (Nat.le_of_ble_eq_true rfl) rfl rfl ?_
    refine wp_iload_n (pc := 33) dX9_readDog_33 rfl ?_
    refine wp_bipush (pc := 34) (x := (-9)) dX9_readDog_34 bp_m9 ?_
    refine wp_icmp_ne (pc := 36) 44 dX9_readDog_36 (by decide) (fun h36 => ?_) (fun h36 => ?_)
    · obtain ⟨yr, zr, xr, ur, vr⟩ := q29.y h36
      rw [ur]
      have Tr : RT M29 T n (k + 1 + 1 + 1) := by rw [vr]; exact Ts.nx yr
      have sqr : Sq M10 M29 := by rw [vr]; exact Sq.f (Or.inl rfl)
      obtain ⟨r, er⟩ : ∃ x, fgN (byt T (k + 1 + 1)) = x := ⟨_, rfl⟩
      rw [er] at zr xr ⊢
      have zr := of_decide_eq_true zr
      refine wp_aload_n (pc := 44) dX9_readDog_44 rfl ?_
      refine wp_ic (pc := 45) (x := nI 1) dX9_readDog_45 ic_1 ?_
      refine wp_ic (pc := 46) (x := nI 3) dX9_readDog_46 ic_3 ?_
      refine wf_callVi (pc := 47) dX9_readDog_47 cl_X9_93 (c_figR ((sqs.tr sqr).rs hR) Tr (a := 1) (b := 3) (by decide) (by decide)) lk_150 rfl rfl rfl rfl (Nat.le_of_ble_eq_true rfl) (by decide) ⟨Nat.le_refl _, Nat.le_refl _⟩ (fun r47 M47 q47 => ?_)
      refine wp_istore (pc := 50) (L' := [_, _, _, _, _]) dX9_readDog_50 (Nat.le_of_ble_eq_true rfl) rfl rfl ?_
      refine wp_iload (pc := 52) dX9_readDog_52 rfl ?_
      refine wp_bipush (pc := 54) (x := (-9)) dX9_readDog_54 bp_m9 ?_
      refine wp_icmp_ne (pc := 56) 61 dX9_readDog_56 (by decide) (fun h56 => ?_) (fun h56 => ?_)
      · obtain ⟨yc, zc, xc, uc, vc⟩ := q47.y h56
        rw [uc]
        have Tc : RT M47 T n (k + 1 + 1 + 1 + 1) := by rw [vc]; exact Tr.nx yc
        have sqc : Sq M29 M47 := by rw [vc]; exact Sq.f (Or.inl rfl)
        obtain ⟨c, ec⟩ : ∃ x, fgN (byt T (k + 1 + 1 + 1)) = x := ⟨_, rfl⟩
        rw [ec] at zc xc ⊢
        have zc := of_decide_eq_true zc
        have hX3 : XQ M47 Λ P := by rw [vc, vr, vs]; exact ((hX.pl _).pl _).pl _
        have hR := ((sqs.tr sqr).tr sqc).rs hR
        refine wp_aload_n (pc := 61) dX9_readDog_61 rfl ?_
        refine wf_getR (pc := 62) dX9_readDog_62 fl_X9_29 lk_150 (hR 150 14 156 rfl) ?_
        refine wp_iload_n (pc := 65) dX9_readDog_65 rfl ?_
        refine wp_iload_n (pc := 66) dX9_readDog_66 rfl ?_
        refine wf_iast (pc := 67) (j := (4 * lD Λ)) dX9_readDog_67 lk_156 rfl (by omega) ?_
        refine wp_aload_n (pc := 68) dX9_readDog_68 rfl ?_
        refine wf_getR (pc := 69) dX9_readDog_69 fl_X9_29 lk_150 (hR 150 14 156 rfl) ?_
        refine wp_iload_n (pc := 72) dX9_readDog_72 rfl ?_
        refine wp_ic (pc := 73) (x := nI 1) dX9_readDog_73 ic_1 ?_
        refine wp_iadd (pc := 74) dX9_readDog_74 ?_
        refine wp_iload_n (pc := 75) dX9_readDog_75 rfl ?_
        refine wf_iast (pc := 76) (j := (4 * lD Λ + 1)) dX9_readDog_76 lk_156 (nI_add _ _) (by omega) ?_
        refine wp_aload_n (pc := 77) dX9_readDog_77 rfl ?_
        refine wf_getR (pc := 78) dX9_readDog_78 fl_X9_29 lk_150 (hR 150 14 156 rfl) ?_
        refine wp_iload_n (pc := 81) dX9_readDog_81 rfl ?_
        refine wp_ic (pc := 82) (x := nI 2) dX9_readDog_82 ic_2 ?_
        refine wp_iadd (pc := 83) dX9_readDog_83 ?_
        refine wp_iload (pc := 84) dX9_readDog_84 rfl ?_
        refine wf_iast (pc := 86) (j := (4 * lD Λ + 2)) dX9_readDog_86 lk_156 (nI_add _ _) (by omega) ?_
        refine wp_aload_n (pc := 87) dX9_readDog_87 rfl ?_
        refine wf_getR (pc := 88) dX9_readDog_88 fl_X9_29 lk_150 (hR 150 14 156 rfl) ?_
        refine wp_iload_n (pc := 91) dX9_readDog_91 rfl ?_
        refine wp_ic (pc := 92) (x := nI 3) dX9_readDog_92 ic_3 ?_
        refine wp_iadd (pc := 93) dX9_readDog_93 ?_
        refine wp_bipush (pc := 94) (x := (-9)) dX9_readDog_94 bp_m9 ?_
        refine wf_iast (pc := 96) (j := (4 * lD Λ + 3)) dX9_readDog_96 lk_156 (nI_add _ _) (by omega) ?_
        refine wp_aload_n (pc := 97) dX9_readDog_97 rfl ?_
        refine wp_dup (pc := 98) dX9_readDog_98 rfl ?_
        refine wf_getI (pc := 99) dX9_readDog_99 fl_X9_100 lk_150 ?_
        rw [show (wI (wI (wI (wI M47 156 (4 * lD Λ) (nI s)) 156 (4 * lD Λ + 1) (nI r)) 156 (4 * lD Λ + 2) (nI c)) 156 (4 * lD Λ + 3) (-9)).1 150 10 = nI (lD Λ) from hX3.1.1]
        refine wp_ic (pc := 102) (x := nI 1) dX9_readDog_102 ic_1 ?_
        refine wp_iadd (pc := 103) dX9_readDog_103 ?_
        refine wp_top (nI (lD Λ + 1)) (nI_1 _) ?_
        refine wf_putI (pc := 104) dX9_readDog_104 fl_X9_100 lk_150 ?_
        refine wp_ic (pc := 107) (x := nI 1) dX9_readDog_107 ic_1 ?_
        refine wf_zret (pc := 108) (true) dX9_readDog_108 rfl rfl ?_
        have hs2 := rn_s hs (stp_D (by rw [es, tkD_1 (by omega) hD, if_pos (by omega)]))
        have hs3 := rn_s hs2 (stp_D (by rw [er, tkD_2 (by omega) hD, if_pos (by omega)]))
        have hs4 := rn_s hs3 (stp_D (by rw [ec, tkD_3 (Λ := lwRa Λ (upd (lRa Λ) (lD Λ) (nI r))) (by omega) hD, if_pos (by omega)]))
        refine ⟨(((((((sqs.tr sqr).tr sqc).tr (Sq.w (by omega))).tr (Sq.w (by omega))).tr (Sq.w (by omega))).tr (Sq.w (by omega))).tr (Sq.f (by omega))), Or.inr ⟨rfl, k + 1 + 1 + 1 + 1, by omega, Tc.mv (by rw [wI_nk (by decide), wI_na (by decide), wI_na (by decide), wI_na (by decide), wI_na (by decide)]) (by rw [wI_nk (by decide), wI_na (by decide), wI_na (by decide), wI_na (by decide), wI_na (by decide)]; exact Tc.1.2) (fun j => by rw [wI_na (by decide), wI_na (by decide), wI_na (by decide), wI_na (by decide), wI_na (by decide)]) Tc.2.2.2.2, _, _, _, _, hs4, ?_, OkF_dog hF hD (by omega) (by omega) (by omega)⟩⟩
        rcases XQ_dog (a := nI s) (b := nI r) (c := nI c) hX3 with w | w
        · exact w
        · omega
      · have hs2 := rn_s hs (stp_D (by rw [es, tkD_1 (by omega) hD, if_pos (by omega)]))
        have hs3 := rn_s hs2 (stp_D (by rw [er, tkD_2 (by omega) hD, if_pos (by omega)]))
        obtain ⟨w1, w2⟩ := q47.n h56
        rw [w1]
        have hsq : Sq M M29 := sqs.tr sqr
        have hbad : Bad σ0 T n M29 := ⟨k + 1 + 1 + 1, Tr, fl_of hs3 (by show (68 : Nat) ≠ 1; decide) Tr.2.2.2.2 (fun w => stp_D0 (by rw [tkD_3 (Λ := lwRa Λ (upd (lRa Λ) (lD Λ) (nI r))) (fgN_le _) hD, if_neg (fun q => of_decide_eq_false (w2 w) (by omega))]))⟩
        refine wp_ic (pc := 59) (x := nI 0) dX9_readDog_59 ic_0 ?_
        refine wf_zret (pc := 60) (false) dX9_readDog_60 rfl rfl ?_
        exact ⟨hsq, Or.inl ⟨rfl, hbad⟩⟩
    · have hs2 := rn_s hs (stp_D (by rw [es, tkD_1 (by omega) hD, if_pos (by omega)]))
      obtain ⟨w1, w2⟩ := q29.n h36
      rw [w1]
      have hsq : Sq M M10 := sqs
      have hbad : Bad σ0 T n M10 := ⟨k + 1 + 1, Ts, fl_of hs2 (by show (68 : Nat) ≠ 1; decide) Ts.2.2.2.2 (fun w => stp_D0 (by rw [tkD_2 (fgN_le _) hD, if_neg (fun q => of_decide_eq_false (w2 w) (by omega))]))⟩
      refine wp_bipush (pc := 39) (x := (-9)) dX9_readDog_39 bp_m9 ?_
      refine wp_goto (pc := 41) 50 dX9_readDog_41 (by decide) ?_
      refine wp_istore (pc := 50) (L' := [_, _, _, _, _]) dX9_readDog_50 (Nat.le_of_ble_eq_true rfl) rfl rfl ?_
      refine wp_iload (pc := 52) dX9_readDog_52 rfl ?_
      refine wp_bipush (pc := 54) (x := (-9)) dX9_readDog_54 bp_m9 ?_
      refine wp_icmp_ne (pc := 56) 61 dX9_readDog_56 (by decide) (fun h56 => ?_) (fun h56 => ?_)
      · exact absurd rfl h56
      · refine wp_ic (pc := 59) (x := nI 0) dX9_readDog_59 ic_0 ?_
        refine wf_zret (pc := 60) (false) dX9_readDog_60 rfl rfl ?_
        exact ⟨hsq, Or.inl ⟨rfl, hbad⟩⟩
  · obtain ⟨w1, w2⟩ := q10.n h17
    rw [w1]
    have hsq : Sq M M := Sq.rf
    have hbad : Bad σ0 T n M := ⟨k + 1, h, fl_of hs (by show (68 : Nat) ≠ 1; decide) h.2.2.2.2 (fun w => stp_D0 (by rw [tkD_1 (fgN_le _) hD, if_neg (fun q => of_decide_eq_false (w2 w) (by omega))]))⟩
    refine wp_bipush (pc := 20) (x := (-9)) dX9_readDog_20 bp_m9 ?_
    refine wp_goto (pc := 22) 32 dX9_readDog_22 (by decide) ?_
    refine wp_istore_n (pc := 32) (L' := [_, _, _, _, _]) dX9_readDog_32 (Nat.le_of_ble_eq_true rfl) rfl rfl ?_
    refine wp_iload_n (pc := 33) dX9_readDog_33 rfl ?_
    refine wp_bipush (pc := 34) (x := (-9)) dX9_readDog_34 bp_m9 ?_
    refine wp_icmp_ne (pc := 36) 44 dX9_readDog_36 (by decide) (fun h36 => ?_) (fun h36 => ?_)
    · exact absurd rfl h36
    · refine wp_bipush (pc := 39) (x := (-9)) dX9_readDog_39 bp_m9 ?_
      refine wp_goto (pc := 41) 50 dX9_readDog_41 (by decide) ?_
      refine wp_istore (pc := 50) (L' := [_, _, _, _, _]) dX9_readDog_50 (Nat.le_of_ble_eq_true rfl) rfl rfl ?_
      refine wp_iload (pc := 52) dX9_readDog_52 rfl ?_
      refine wp_bipush (pc := 54) (x := (-9)) dX9_readDog_54 bp_m9 ?_
      refine wp_icmp_ne (pc := 56) 61 dX9_readDog_56 (by decide) (fun h56 => ?_) (fun h56 => ?_)
      · exact absurd rfl h56
      · refine wp_ic (pc := 59) (x := nI 0) dX9_readDog_59 ic_0 ?_
        refine wf_zret (pc := 60) (false) dX9_readDog_60 rfl rfl ?_
        exact ⟨hsq, Or.inl ⟨rfl, hbad⟩⟩
