theorem pw5 {D m : Nat} (hD : D ≤ 4) (hm : m ≤ 5) : 0 < (D + 1) ^ m ∧ (D + 1) ^ m ≤ 3125 := ⟨Nat.pow_pos (by omega), Nat.le_trans (Nat.pow_le_pow_left (show D + 1 ≤ 5 by omega) m) (Nat.pow_le_pow_right (n := 5) (by decide) hm)⟩
theorem rmN_eq {Λ : Lw} (hL : OkL Λ) {d : Nat} (hd : d < lD Λ) : lRm Λ d = nI (rmN Λ d) ∧ rmN Λ d ≤ 3 := by
  obtain ⟨r, r1, r2, r3⟩ := (hL.2.2.2.2.1 d hd).2.1
  have : rmN Λ d = r := by unfold rmN; rw [r3, nI_cl (by omega)]
  rw [this]
  exact ⟨r3, r2⟩
theorem swN_lt {s : Sv} {B m c : Nat} (V : OkV B s) (hc : c ≤ lD s.Λ) (hm : m < lM s.Λ) (t : Nat) : swN s.Λ s.P m c t < 5 := by
  unfold swN
  split
  · exact Nat.mod_lt _ (by decide)
  · obtain ⟨z, hz, ez⟩ := (V.p.2.2.1 m hm).2.1
    unfold sN
    rw [ez, nI_cl (by omega)]
    exact hz
theorem cR_isWalk {l : Launch} {K : CtxT} {M : Mm} {s : Sv} {B : Nat} (H : XM M s) (V : OkV B s) (hB : B ≤ 9999) {row : Nat} (hrow : row < (lD s.Λ + 1) ^ lM s.Λ) : Ci l K 1 mX9_isWalk [.ref (K.1 + 150), .int (nI row)] M (fun r M' => r = b2i (isW s row) ∧ M' = M) := by
  refine ci_of (L := [some (.ref (K.1 + 150)), some (.int (nI row)), none, none, none, none]) (by decide +kernel) (Nat.le_of_ble_eq_true rfl) rfl rfl (fun E => ?_)
  have hD := V.l.1
  have hM := V.l.2.1
  have hS := V.s.1
  have hrow2 : row < 3125 := Nat.lt_of_lt_of_le hrow (pw5 hD hM).2
  have inner : ∀ (d : Nat), d < lD s.Λ → (∀ z, Wp E K mX9_isWalk 1 (0, 0) 71 [some (.ref (K.1 + 150)), some (.int (nI row)), some (.int (nI 1)), some (.int (nI d)), some (.int (nI (cntC (cqB (lD s.Λ) row d) (lM s.Λ)))), z] [] 168 M 0 0 (zI E K (fun r M' => r = b2i (isW s row) ∧ M' = M))) → ∀ (q m : Nat), q = lM s.Λ - m → m ≤ lM s.Λ → Wp E K mX9_isWalk 1 (0, 0) 22 [some (.ref (K.1 + 150)), some (.int (nI row)), some (.int (nI 1)), some (.int (nI d)), some (.int (nI (cntC (cqB (lD s.Λ) row d) m))), some (.int (nI m))] [] 168 M 0 0 (zI E K (fun r M' => r = b2i (isW s row) ∧ M' = M)) := by
    intro d hd cont q
    induction q with
    | zero =>
      intro m hq hm
      refine wp_iload (pc := 22) dX9_isWalk_22 rfl ?_
      refine wp_aload_n (pc := 24) dX9_isWalk_24 rfl ?_
      refine wf_getI (pc := 25) dX9_isWalk_25 fl_X9_76 lk_150 ?_
      rw [H.w.2.1]
      refine wp_icmp_ge (pc := 28) 71 dX9_isWalk_28 (by decide) (fun h28 => ?_) (fun h28 => ?_)
      · rw [show m = lM s.Λ by omega]
        exact cont _
      · exact absurd (nI_le (by omega) (by omega)) h28
    | succ q ih =>
      intro m hq hm
      obtain ⟨hp0, hp1⟩ := pw5 (m := m) hD (by omega)
      have hdl := Nat.div_le_self row ((lD s.Λ + 1) ^ m)
      have hcp := cpD_lt (D := lD s.Λ) (row := row) (m := m)
      refine wp_iload (pc := 22) dX9_isWalk_22 rfl ?_
      refine wp_aload_n (pc := 24) dX9_isWalk_24 rfl ?_
      refine wf_getI (pc := 25) dX9_isWalk_25 fl_X9_76 lk_150 ?_
      rw [H.w.2.1]
      refine wp_icmp_ge (pc := 28) 71 dX9_isWalk_28 (by decide) (fun h28 => ?_) (fun h28 => ?_)
      · exact absurd h28 (nI_ge (by omega) (by omega))
      · refine wp_iload (pc := 31) dX9_isWalk_31 rfl ?_
        refine wp_iload_n (pc := 33) dX9_isWalk_33 rfl ?_
        refine wp_aload_n (pc := 34) dX9_isWalk_34 rfl ?_
        refine wf_getI (pc := 35) dX9_isWalk_35 fl_X9_69 lk_150 ?_
        rw [H.w.1]
        refine wp_ic (pc := 38) (x := nI 1) dX9_isWalk_38 ic_1 ?_
        refine wp_iadd (pc := 39) dX9_isWalk_39 ?_
        refine wp_top (nI (lD s.Λ + 1)) (nI_add _ _) ?_
        refine wp_iload (pc := 40) dX9_isWalk_40 rfl ?_
        refine wf_callSi (pc := 42) dX9_isWalk_42 cl_X9_188 (cR_power (b := lD s.Λ + 1) (n := m) (by omega)) rfl rfl (Nat.le_of_ble_eq_true rfl) (by decide) ⟨Nat.le_refl _, Nat.le_refl _⟩ (fun r42 M42 q42 => ?_)
        rw [q42.1, q42.2]
        refine wp_idivN (pc := 45) dX9_isWalk_45 rfl rfl (by omega) hp0 (by omega) ?_
        refine wp_aload_n (pc := 46) dX9_isWalk_46 rfl ?_
        refine wf_getI (pc := 47) dX9_isWalk_47 fl_X9_69 lk_150 ?_
        rw [H.w.1]
        refine wp_ic (pc := 50) (x := nI 1) dX9_isWalk_50 ic_1 ?_
        refine wp_iadd (pc := 51) dX9_isWalk_51 ?_
        refine wp_top (nI (lD s.Λ + 1)) (nI_add _ _) ?_
        refine wp_iremN (pc := 52) dX9_isWalk_52 rfl rfl (by omega) (by omega) (by omega) ?_
        refine wp_top (nI (cpD (lD s.Λ) row m)) rfl ?_
        refine wp_iload_n (pc := 53) dX9_isWalk_53 rfl ?_
        refine wp_icmp_ne (pc := 54) 61 dX9_isWalk_54 (by decide) (fun h54 => ?_) (fun h54 => ?_)
        · have ec : cntC (cqB (lD s.Λ) row d) (m + 1) = (cntC (cqB (lD s.Λ) row d) m) + 0 := by rw [cnt_n (show cqB (lD s.Λ) row d m = false from decide_eq_false (fun q => h54 (by rw [q])))]; rfl
          refine wp_ic (pc := 61) (x := nI 0) dX9_isWalk_61 ic_0 ?_
          refine wp_iadd (pc := 62) dX9_isWalk_62 ?_
          rw [nI_add]
          refine wp_istore (pc := 63) (L' := [_, _, _, _, _, _]) dX9_isWalk_63 (Nat.le_of_ble_eq_true rfl) rfl rfl ?_
          refine wp_iinc1 (pc := 65) (L' := [_, _, _, _, _, _]) dX9_isWalk_65 rfl rfl rfl ?_
          refine wp_goto (pc := 68) 22 dX9_isWalk_68 (by decide) ?_
          have := ih (m + 1) (by omega) (by omega)
          rw [ec] at this
          exact this
        · have ec : cntC (cqB (lD s.Λ) row d) (m + 1) = (cntC (cqB (lD s.Λ) row d) m) + 1 := cnt_y (decide_eq_true ((nI_eq (by omega) (by omega)).mp h54))
          refine wp_ic (pc := 57) (x := nI 1) dX9_isWalk_57 ic_1 ?_
          refine wp_goto (pc := 58) 62 dX9_isWalk_58 (by decide) ?_
          refine wp_iadd (pc := 62) dX9_isWalk_62 ?_
          rw [nI_add]
          refine wp_istore (pc := 63) (L' := [_, _, _, _, _, _]) dX9_isWalk_63 (Nat.le_of_ble_eq_true rfl) rfl rfl ?_
          refine wp_iinc1 (pc := 65) (L' := [_, _, _, _, _, _]) dX9_isWalk_65 rfl rfl rfl ?_
          refine wp_goto (pc := 68) 22 dX9_isWalk_68 (by decide) ?_
          have := ih (m + 1) (by omega) (by omega)
          rw [ec] at this
          exact this
  have two : ∀ (q k : Nat) (b : Bool) (z1 z2 : Option Value), q = s.σ.1 - k → k ≤ s.σ.1 → (b = true → anyN (lD s.Λ) (bad1 s row) = false ∧ ∀ j, j < k → bad2 s row j = false) → (b = false → isW s row = false) → Wp E K mX9_isWalk 1 (0, 0) 100 [some (.ref (K.1 + 150)), some (.int (nI row)), some (.int (b2i b)), some (.int (nI k)), z1, z2] [] 168 M 0 0 (zI E K (fun r M' => r = b2i (isW s row) ∧ M' = M)) := by
    intro q
    induction q with
    | zero =>
      intro k b z1 z2 hq hk hb1 hb2
      refine wp_iload_n (pc := 100) dX9_isWalk_100 rfl ?_
      refine wp_aload_n (pc := 101) dX9_isWalk_101 rfl ?_
      refine wf_getI (pc := 102) dX9_isWalk_102 fl_X9_150 lk_150 ?_
      rw [H.s.1]
      refine wp_icmp_ge (pc := 105) 182 dX9_isWalk_105 (by decide) (fun h105 => ?_) (fun h105 => ?_)
      · refine wp_iload_n (pc := 182) dX9_isWalk_182 rfl ?_
        refine wf_zret (pc := 183) (b) dX9_isWalk_183 rfl rfl ?_
        refine ⟨?_, rfl⟩
        cases b with
        | true =>
          obtain ⟨g1, g2⟩ := hb1 rfl
          unfold isW
          rw [g1, anyN_f (fun j hj => g2 j (by omega))]
          rfl
        | false => rw [hb2 rfl]
      · exact absurd (nI_le (by omega) (by omega)) h105
    | succ q ih =>
      intro k b z1 z2 hq hk hb1 hb2
      obtain ⟨g1, g2, g3⟩ := H.s.2 k (by omega)
      obtain ⟨v1, v2, v3⟩ := V.s.2 k (by omega)
      refine wp_iload_n (pc := 100) dX9_isWalk_100 rfl ?_
      refine wp_aload_n (pc := 101) dX9_isWalk_101 rfl ?_
      refine wf_getI (pc := 102) dX9_isWalk_102 fl_X9_150 lk_150 ?_
      rw [H.s.1]
      refine wp_icmp_ge (pc := 105) 182 dX9_isWalk_105 (by decide) (fun h105 => ?_) (fun h105 => ?_)
      · exact absurd h105 (nI_ge (by omega) (by omega))
      · refine wp_iload_n (pc := 108) dX9_isWalk_108 rfl ?_
        refine wp_if_eq (pc := 109) 182 dX9_isWalk_109 (by decide) (fun h109 => ?_) (fun h109 => ?_)
        · have h109 := b2i_0 h109
          refine wp_iload_n (pc := 182) dX9_isWalk_182 rfl ?_
          refine wf_zret (pc := 183) (b) dX9_isWalk_183 rfl rfl ?_
          refine ⟨?_, rfl⟩
          rw [h109, hb2 h109]
        · have h109 := b2i_1 h109
          have hb1 := hb1 h109
          refine wp_aload_n (pc := 112) dX9_isWalk_112 rfl ?_
          refine wf_getR (pc := 113) dX9_isWalk_113 fl_X9_51 lk_150 (H.r 150 23 163 rfl) ?_
          refine wp_iload_n (pc := 116) dX9_isWalk_116 rfl ?_
          refine wf_iald (pc := 117) (j := k) dX9_isWalk_117 lk_163 rfl (by omega) ?_
          rw [g1]
          refine wp_istore (pc := 118) (L' := [_, _, _, _, _, _]) dX9_isWalk_118 (Nat.le_of_ble_eq_true rfl) rfl rfl ?_
          refine wp_iload (pc := 120) dX9_isWalk_120 rfl ?_
          refine wp_aload_n (pc := 122) dX9_isWalk_122 rfl ?_
          refine wf_getI (pc := 123) dX9_isWalk_123 fl_X9_76 lk_150 ?_
          rw [H.w.2.1]
          refine wp_icmp_ge (pc := 126) 170 dX9_isWalk_126 (by decide) (fun h126 => ?_) (fun h126 => ?_)
          · have eb : bad2 s row k = false := by unfold bad2; rw [decide_eq_false (fun q => absurd h126 (nI_ge q (by omega)))]; rfl
            refine wp_ic (pc := 170) (x := nI 1) dX9_isWalk_170 ic_1 ?_
            refine wp_goto (pc := 171) 175 dX9_isWalk_171 (by decide) ?_
            refine wp_istore_n (pc := 175) (L' := [_, _, _, _, _, _]) dX9_isWalk_175 (Nat.le_of_ble_eq_true rfl) rfl rfl ?_
            refine wp_iinc1 (pc := 176) (L' := [_, _, _, _, _, _]) dX9_isWalk_176 rfl rfl rfl ?_
            refine wp_goto (pc := 179) 100 dX9_isWalk_179 (by decide) ?_
            first | exact ih (k + 1) true _ _ (by omega) (by omega) (fun _ => ⟨hb1.1, fun j hj => by rcases Nat.lt_succ_iff_lt_or_eq.mp hj with q | rfl; exact hb1.2 j q; exact eb⟩) (fun q => by cases q) | exact ih (k + 1) false _ _ (by omega) (by omega) (fun q => by cases q) (fun _ => by unfold isW; rw [anyN_t (show k < s.σ.1 by omega) eb]; simp)
          · have hm5 : (s.σ.2.1 k) < lM s.Λ := by rcases Nat.lt_or_ge (s.σ.2.1 k) (lM s.Λ) with q | q; exact q; exact absurd (nI_le q (by omega)) h126
            obtain ⟨hp0, hp1⟩ := pw5 (m := (s.σ.2.1 k)) hD (by omega)
            have hdl := Nat.div_le_self row ((lD s.Λ + 1) ^ (s.σ.2.1 k))
            have hcp := cpD_lt (D := lD s.Λ) (row := row) (m := (s.σ.2.1 k))
            refine wp_aload_n (pc := 129) dX9_isWalk_129 rfl ?_
            refine wp_iload (pc := 130) dX9_isWalk_130 rfl ?_
            refine wp_iload_n (pc := 132) dX9_isWalk_132 rfl ?_
            refine wp_aload_n (pc := 133) dX9_isWalk_133 rfl ?_
            refine wf_getI (pc := 134) dX9_isWalk_134 fl_X9_69 lk_150 ?_
            rw [H.w.1]
            refine wp_ic (pc := 137) (x := nI 1) dX9_isWalk_137 ic_1 ?_
            refine wp_iadd (pc := 138) dX9_isWalk_138 ?_
            refine wp_top (nI (lD s.Λ + 1)) (nI_add _ _) ?_
            refine wp_iload (pc := 139) dX9_isWalk_139 rfl ?_
            refine wf_callSi (pc := 141) dX9_isWalk_141 cl_X9_188 (cR_power (b := lD s.Λ + 1) (n := (s.σ.2.1 k)) (by omega)) rfl rfl (Nat.le_of_ble_eq_true rfl) (by decide) ⟨Nat.le_refl _, Nat.le_refl _⟩ (fun r141 M141 q141 => ?_)
            rw [q141.1, q141.2]
            refine wp_idivN (pc := 144) dX9_isWalk_144 rfl rfl (by omega) hp0 (by omega) ?_
            refine wp_aload_n (pc := 145) dX9_isWalk_145 rfl ?_
            refine wf_getI (pc := 146) dX9_isWalk_146 fl_X9_69 lk_150 ?_
            rw [H.w.1]
            refine wp_ic (pc := 149) (x := nI 1) dX9_isWalk_149 ic_1 ?_
            refine wp_iadd (pc := 150) dX9_isWalk_150 ?_
            refine wp_top (nI (lD s.Λ + 1)) (nI_add _ _) ?_
            refine wp_iremN (pc := 151) dX9_isWalk_151 rfl rfl (by omega) (by omega) (by omega) ?_
            refine wp_top (nI (cpD (lD s.Λ) row (s.σ.2.1 k))) rfl ?_
            refine wp_aload_n (pc := 152) dX9_isWalk_152 rfl ?_
            refine wf_getR (pc := 153) dX9_isWalk_153 fl_X9_57 lk_150 (H.r 150 25 165 rfl) ?_
            refine wp_iload_n (pc := 156) dX9_isWalk_156 rfl ?_
            refine wf_iald (pc := 157) (j := k) dX9_isWalk_157 lk_165 rfl (by omega) ?_
            rw [g3]
            refine wf_callVi (pc := 158) dX9_isWalk_158 cl_X9_212 (cR_wasAt H V hB hm5 hcp v3) lk_150 rfl rfl rfl rfl (Nat.le_of_ble_eq_true rfl) (by decide) ⟨Nat.le_refl _, Nat.le_refl _⟩ (fun r158 M158 q158 => ?_)
            rw [q158.1, q158.2]
            refine wp_aload_n (pc := 161) dX9_isWalk_161 rfl ?_
            refine wf_getR (pc := 162) dX9_isWalk_162 fl_X9_54 lk_150 (H.r 150 24 164 rfl) ?_
            refine wp_iload_n (pc := 165) dX9_isWalk_165 rfl ?_
            refine wf_iald (pc := 166) (j := k) dX9_isWalk_166 lk_164 rfl (by omega) ?_
            rw [g2]
            refine wp_icmp_ne (pc := 167) 174 dX9_isWalk_167 (by decide) (fun h167 => ?_) (fun h167 => ?_)
            · have hsw := swN_lt V hcp hm5 (s.σ.2.2.2 k)
              have eb : bad2 s row k = true := by unfold bad2; rw [decide_eq_true hm5, decide_eq_false (fun q => h167 (by rw [q]))]; rfl
              refine wp_ic (pc := 174) (x := nI 0) dX9_isWalk_174 ic_0 ?_
              refine wp_istore_n (pc := 175) (L' := [_, _, _, _, _, _]) dX9_isWalk_175 (Nat.le_of_ble_eq_true rfl) rfl rfl ?_
              refine wp_iinc1 (pc := 176) (L' := [_, _, _, _, _, _]) dX9_isWalk_176 rfl rfl rfl ?_
              refine wp_goto (pc := 179) 100 dX9_isWalk_179 (by decide) ?_
              first | exact ih (k + 1) true _ _ (by omega) (by omega) (fun _ => ⟨hb1.1, fun j hj => by rcases Nat.lt_succ_iff_lt_or_eq.mp hj with q | rfl; exact hb1.2 j q; exact eb⟩) (fun q => by cases q) | exact ih (k + 1) false _ _ (by omega) (by omega) (fun q => by cases q) (fun _ => by unfold isW; rw [anyN_t (show k < s.σ.1 by omega) eb]; simp)
            · have hsw := swN_lt V hcp hm5 (s.σ.2.2.2 k)
              have eb : bad2 s row k = false := by unfold bad2; rw [decide_eq_true hm5, decide_eq_true ((nI_eq (by omega) (by omega)).mp h167)]; rfl
              refine wp_ic (pc := 170) (x := nI 1) dX9_isWalk_170 ic_1 ?_
              refine wp_goto (pc := 171) 175 dX9_isWalk_171 (by decide) ?_
              refine wp_istore_n (pc := 175) (L' := [_, _, _, _, _, _]) dX9_isWalk_175 (Nat.le_of_ble_eq_true rfl) rfl rfl ?_
              refine wp_iinc1 (pc := 176) (L' := [_, _, _, _, _, _]) dX9_isWalk_176 rfl rfl rfl ?_
              refine wp_goto (pc := 179) 100 dX9_isWalk_179 (by decide) ?_
              first | exact ih (k + 1) true _ _ (by omega) (by omega) (fun _ => ⟨hb1.1, fun j hj => by rcases Nat.lt_succ_iff_lt_or_eq.mp hj with q | rfl; exact hb1.2 j q; exact eb⟩) (fun q => by cases q) | exact ih (k + 1) false _ _ (by omega) (by omega) (fun q => by cases q) (fun _ => by unfold isW; rw [anyN_t (show k < s.σ.1 by omega) eb]; simp)
  have one : ∀ (q d : Nat) (b : Bool) (z1 z2 : Option Value), q = lD s.Λ - d → d ≤ lD s.Λ → (b = true → ∀ j, j < d → bad1 s row j = false) → (b = false → isW s row = false) → Wp E K mX9_isWalk 1 (0, 0) 4 [some (.ref (K.1 + 150)), some (.int (nI row)), some (.int (b2i b)), some (.int (nI d)), z1, z2] [] 168 M 0 0 (zI E K (fun r M' => r = b2i (isW s row) ∧ M' = M)) := by
    intro q
    induction q with
    | zero =>
      intro d b z1 z2 hq hd hb1 hb2
      refine wp_iload_n (pc := 4) dX9_isWalk_4 rfl ?_
      refine wp_aload_n (pc := 5) dX9_isWalk_5 rfl ?_
      refine wf_getI (pc := 6) dX9_isWalk_6 fl_X9_69 lk_150 ?_
      rw [H.w.1]
      refine wp_icmp_ge (pc := 9) 98 dX9_isWalk_9 (by decide) (fun h9 => ?_) (fun h9 => ?_)
      · refine wp_ic (pc := 98) (x := nI 0) dX9_isWalk_98 ic_0 ?_
        refine wp_istore_n (pc := 99) (L' := [_, _, _, _, _, _]) dX9_isWalk_99 (Nat.le_of_ble_eq_true rfl) rfl rfl ?_
        exact two s.σ.1 0 b _ _ (by omega) (by omega) (fun q => ⟨anyN_f (fun j hj => hb1 q j (by omega)), fun j hj => absurd hj (Nat.not_lt_zero _)⟩) hb2
      · exact absurd (nI_le (by omega) (by omega)) h9
    | succ q ih =>
      intro d b z1 z2 hq hd hb1 hb2
      obtain ⟨r1, r2⟩ := rmN_eq V.l (show d < lD s.Λ by omega)
      have hcl := cntC_le (cqB (lD s.Λ) row d) (lM s.Λ)
      refine wp_iload_n (pc := 4) dX9_isWalk_4 rfl ?_
      refine wp_aload_n (pc := 5) dX9_isWalk_5 rfl ?_
      refine wf_getI (pc := 6) dX9_isWalk_6 fl_X9_69 lk_150 ?_
      rw [H.w.1]
      refine wp_icmp_ge (pc := 9) 98 dX9_isWalk_9 (by decide) (fun h9 => ?_) (fun h9 => ?_)
      · exact absurd h9 (nI_ge (by omega) (by omega))
      · refine wp_iload_n (pc := 12) dX9_isWalk_12 rfl ?_
        refine wp_if_eq (pc := 13) 98 dX9_isWalk_13 (by decide) (fun h13 => ?_) (fun h13 => ?_)
        · have h13 := b2i_0 h13
          refine wp_ic (pc := 98) (x := nI 0) dX9_isWalk_98 ic_0 ?_
          refine wp_istore_n (pc := 99) (L' := [_, _, _, _, _, _]) dX9_isWalk_99 (Nat.le_of_ble_eq_true rfl) rfl rfl ?_
          exact two s.σ.1 0 b _ _ (by omega) (by omega) (fun q => by rw [h13] at q; cases q) hb2
        · have h13 := b2i_1 h13
          have hc1 := hb1 h13
          subst h13
          refine wp_ic (pc := 16) (x := nI 0) dX9_isWalk_16 ic_0 ?_
          refine wp_istore (pc := 17) (L' := [_, _, _, _, _, _]) dX9_isWalk_17 (Nat.le_of_ble_eq_true rfl) rfl rfl ?_
          refine wp_ic (pc := 19) (x := nI 0) dX9_isWalk_19 ic_0 ?_
          refine wp_istore (pc := 20) (L' := [_, _, _, _, _, _]) dX9_isWalk_20 (Nat.le_of_ble_eq_true rfl) rfl rfl ?_
          refine inner d (by omega) (fun z => ?_) (lM s.Λ) 0 (by omega) (by omega)
          refine wp_iload (pc := 71) dX9_isWalk_71 rfl ?_
          refine wp_aload_n (pc := 73) dX9_isWalk_73 rfl ?_
          refine wf_getR (pc := 74) dX9_isWalk_74 fl_X9_20 lk_150 (H.r 150 8 153 rfl) ?_
          refine wp_ic (pc := 77) (x := nI 4) dX9_isWalk_77 ic_4 ?_
          refine wp_iload_n (pc := 78) dX9_isWalk_78 rfl ?_
          refine wp_imul (pc := 79) dX9_isWalk_79 ?_
          refine wp_ic (pc := 80) (x := nI 2) dX9_isWalk_80 ic_2 ?_
          refine wp_iadd (pc := 81) dX9_isWalk_81 ?_
          refine wf_iald (pc := 82) (j := (4 * d + 2)) dX9_isWalk_82 lk_153 (by rw [pk_mul, nI_add]) (by omega) ?_
          rw [show M.1 153 (4 * d + 2) = nI (rmN s.Λ d) from (H.w.2.2.2.2.1 d (by omega)).2.1.trans r1]
          refine wp_icmp_gt (pc := 83) 90 dX9_isWalk_83 (by decide) (fun h83 => ?_) (fun h83 => ?_)
          · have eb : bad1 s row d = true := decide_eq_true ((nI_gtI (by omega) (by omega)).mp h83)
            refine wp_ic (pc := 90) (x := nI 0) dX9_isWalk_90 ic_0 ?_
            refine wp_istore_n (pc := 91) (L' := [_, _, _, _, _, _]) dX9_isWalk_91 (Nat.le_of_ble_eq_true rfl) rfl rfl ?_
            refine wp_iinc1 (pc := 92) (L' := [_, _, _, _, _, _]) dX9_isWalk_92 rfl rfl rfl ?_
            refine wp_goto (pc := 95) 4 dX9_isWalk_95 (by decide) ?_
            first | exact ih (d + 1) true _ _ (by omega) (by omega) (fun _ j hj => by rcases Nat.lt_succ_iff_lt_or_eq.mp hj with q | q; exact hc1 j q; rw [q]; exact eb) (fun q => by cases q) | exact ih (d + 1) false _ _ (by omega) (by omega) (fun q => by cases q) (fun _ => by unfold isW; rw [anyN_t (show d < lD s.Λ by omega) eb]; rfl)
          · have eb : bad1 s row d = false := decide_eq_false (fun q => h83 (nI_lt q (by omega)))
            refine wp_ic (pc := 86) (x := nI 1) dX9_isWalk_86 ic_1 ?_
            refine wp_goto (pc := 87) 91 dX9_isWalk_87 (by decide) ?_
            refine wp_istore_n (pc := 91) (L' := [_, _, _, _, _, _]) dX9_isWalk_91 (Nat.le_of_ble_eq_true rfl) rfl rfl ?_
            refine wp_iinc1 (pc := 92) (L' := [_, _, _, _, _, _]) dX9_isWalk_92 rfl rfl rfl ?_
            refine wp_goto (pc := 95) 4 dX9_isWalk_95 (by decide) ?_
            first | exact ih (d + 1) true _ _ (by omega) (by omega) (fun _ j hj => by rcases Nat.lt_succ_iff_lt_or_eq.mp hj with q | q; exact hc1 j q; rw [q]; exact eb) (fun q => by cases q) | exact ih (d + 1) false _ _ (by omega) (by omega) (fun q => by cases q) (fun _ => by unfold isW; rw [anyN_t (show d < lD s.Λ by omega) eb]; rfl)
  refine wp_ic (pc := 0) (x := nI 1) dX9_isWalk_0 ic_1 ?_
  refine wp_istore_n (pc := 1) (L' := [_, _, _, _, _, _]) dX9_isWalk_1 (Nat.le_of_ble_eq_true rfl) rfl rfl ?_
  refine wp_ic (pc := 2) (x := nI 0) dX9_isWalk_2 ic_0 ?_
  refine wp_istore_n (pc := 3) (L' := [_, _, _, _, _, _]) dX9_isWalk_3 (Nat.le_of_ble_eq_true rfl) rfl rfl ?_
  exact one (lD s.Λ) 0 true none none (by omega) (by omega) (fun _ j hj => absurd hj (Nat.not_lt_zero _)) (fun q => by cases q)
theorem cR_findWalks {l : Launch} {K : CtxT} {M : Mm} {s : Sv} {B : Nat} (H : XM M s) (V : OkV B s) (hB : B ≤ 9999) : Cv l K 2 mX9_findWalks [.ref (K.1 + 150)] M (fun M' => XM M' s ∧ Fm M M' ∧ M'.1 150 29 = nI (cntC (isW s) ((lD s.Λ + 1) ^ lM s.Λ)) ∧ ∀ m, m < lM s.Λ → M'.1 167 m = wiC (isW s) (fun r => asV (lD s.Λ) r m) (M.1 167 m) ((lD s.Λ + 1) ^ lM s.Λ)) := by
  refine cv_of (L := [some (.ref (K.1 + 150)), none, none, none, none]) (by decide +kernel) (Nat.le_of_ble_eq_true rfl) rfl rfl (fun E => ?_)
  have hD := V.l.1
  have hM := V.l.2.1
  have hN := (pw5 hD hM).2
  have inner : ∀ (row : Nat) (M0 : Mm), row < ((lD s.Λ + 1) ^ lM s.Λ) → isW s row = true → XM M0 s → Fm M M0 → M0.1 150 29 = nI (cntC (isW s) row) → (∀ m, m < lM s.Λ → M0.1 167 m = wiC (isW s) (fun r => asV (lD s.Λ) r m) (M.1 167 m) row) → (∀ M1 z1 z2 z3, XM M1 s → Fm M M1 → M1.1 150 29 = nI (cntC (isW s) row) → (∀ m, m < lM s.Λ → M1.1 167 m = wiC (isW s) (fun r => asV (lD s.Λ) r m) (M.1 167 m) (row + 1)) → Wp E K mX9_findWalks 2 (0, 0) 115 [some (.ref (K.1 + 150)), some (.int (nI row)), z1, z2, z3] [] 168 M1 0 0 (zV E K (fun M' => XM M' s ∧ Fm M M' ∧ M'.1 150 29 = nI (cntC (isW s) ((lD s.Λ + 1) ^ lM s.Λ)) ∧ ∀ m, m < lM s.Λ → M'.1 167 m = wiC (isW s) (fun r => asV (lD s.Λ) r m) (M.1 167 m) ((lD s.Λ + 1) ^ lM s.Λ)))) → ∀ (q m : Nat) (M1 : Mm) (z2 z3 : Option Value), q = lM s.Λ - m → m ≤ lM s.Λ → Sm 167 168 M0 M1 → (∀ j, j < m → M1.1 167 j = wiC (isW s) (fun r => asV (lD s.Λ) r j) (M.1 167 j) (row + 1)) → (∀ j, m ≤ j → M1.1 167 j = M0.1 167 j) → Wp E K mX9_findWalks 2 (0, 0) 34 [some (.ref (K.1 + 150)), some (.int (nI row)), some (.int (nI m)), z2, z3] [] 168 M1 0 0 (zV E K (fun M' => XM M' s ∧ Fm M M' ∧ M'.1 150 29 = nI (cntC (isW s) ((lD s.Λ + 1) ^ lM s.Λ)) ∧ ∀ m, m < lM s.Λ → M'.1 167 m = wiC (isW s) (fun r => asV (lD s.Λ) r m) (M.1 167 m) ((lD s.Λ + 1) ^ lM s.Λ))) := by
    intro row M0 hrow hw H0 F0 hc h0 cont q
    induction q with
    | zero =>
      intro m M1 z2 z3 hq hm s1 hd ho
      have H := H0.scr s1 (by omega)
      refine wp_iload_n (pc := 34) dX9_findWalks_34 rfl ?_
      refine wp_aload_n (pc := 35) dX9_findWalks_35 rfl ?_
      refine wf_getI (pc := 36) dX9_findWalks_36 fl_X9_76 lk_150 ?_
      rw [H.w.2.1]
      refine wp_icmp_ge (pc := 39) 115 dX9_findWalks_39 (by decide) (fun h39 => ?_) (fun h39 => ?_)
      · exact cont M1 _ _ _ H (F0.tr (s1.fm (by decide))) ((s1.2 150 (by omega) 29).trans hc) (fun j hj => hd j (by omega))
      · exact absurd (nI_le (by omega) (by omega)) h39
    | succ q ih =>
      intro m M1 z2 z3 hq hm s1 hd ho
      have H := H0.scr s1 (by omega)
      obtain ⟨hp0, hp1⟩ := pw5 (m := m) hD (by omega)
      have hdl := Nat.div_le_self row ((lD s.Λ + 1) ^ m)
      have hcp := cpD_lt (D := lD s.Λ) (row := row) (m := m)
      have hcl := cntC_le (isW s) row
      have hws : wiC (isW s) (fun r => asV (lD s.Λ) r m) (M.1 167 m) (row + 1) = if cntC (isW s) row = 0 ∨ wiC (isW s) (fun r => asV (lD s.Λ) r m) (M.1 167 m) row = asV (lD s.Λ) row m then asV (lD s.Λ) row m else no9 := if_pos hw
      have hm0 : M1.1 167 m = wiC (isW s) (fun r => asV (lD s.Λ) r m) (M.1 167 m) row := (ho m (Nat.le_refl _)).trans (h0 m (by omega))
      refine wp_iload_n (pc := 34) dX9_findWalks_34 rfl ?_
      refine wp_aload_n (pc := 35) dX9_findWalks_35 rfl ?_
      refine wf_getI (pc := 36) dX9_findWalks_36 fl_X9_76 lk_150 ?_
      rw [H.w.2.1]
      refine wp_icmp_ge (pc := 39) 115 dX9_findWalks_39 (by decide) (fun h39 => ?_) (fun h39 => ?_)
      · exact absurd h39 (nI_ge (by omega) (by omega))
      · refine wp_iload_n (pc := 42) dX9_findWalks_42 rfl ?_
        refine wp_aload_n (pc := 43) dX9_findWalks_43 rfl ?_
        refine wf_getI (pc := 44) dX9_findWalks_44 fl_X9_69 lk_150 ?_
        rw [H.w.1]
        refine wp_ic (pc := 47) (x := nI 1) dX9_findWalks_47 ic_1 ?_
        refine wp_iadd (pc := 48) dX9_findWalks_48 ?_
        refine wp_top (nI (lD s.Λ + 1)) (nI_add _ _) ?_
        refine wp_iload_n (pc := 49) dX9_findWalks_49 rfl ?_
        refine wf_callSi (pc := 50) dX9_findWalks_50 cl_X9_188 (cR_power (b := lD s.Λ + 1) (n := m) (by omega)) rfl rfl (Nat.le_of_ble_eq_true rfl) (by decide) ⟨Nat.le_refl _, Nat.le_refl _⟩ (fun r50 M50 q50 => ?_)
        rw [q50.1, q50.2]
        refine wp_idivN (pc := 53) dX9_findWalks_53 rfl rfl (by omega) hp0 (by omega) ?_
        refine wp_aload_n (pc := 54) dX9_findWalks_54 rfl ?_
        refine wf_getI (pc := 55) dX9_findWalks_55 fl_X9_69 lk_150 ?_
        rw [H.w.1]
        refine wp_ic (pc := 58) (x := nI 1) dX9_findWalks_58 ic_1 ?_
        refine wp_iadd (pc := 59) dX9_findWalks_59 ?_
        refine wp_top (nI (lD s.Λ + 1)) (nI_add _ _) ?_
        refine wp_iremN (pc := 60) dX9_findWalks_60 rfl rfl (by omega) (by omega) (by omega) ?_
        refine wp_top (nI (cpD (lD s.Λ) row m)) rfl ?_
        refine wp_istore_n (pc := 61) (L' := [_, _, _, _, _]) dX9_findWalks_61 (Nat.le_of_ble_eq_true rfl) rfl rfl ?_
        refine wp_iload_n (pc := 62) dX9_findWalks_62 rfl ?_
        refine wp_aload_n (pc := 63) dX9_findWalks_63 rfl ?_
        refine wf_getI (pc := 64) dX9_findWalks_64 fl_X9_69 lk_150 ?_
        rw [H.w.1]
        refine wp_icmp_ne (pc := 67) 75 dX9_findWalks_67 (by decide) (fun h67 => ?_) (fun h67 => ?_)
        · have eas : nI (cpD (lD s.Λ) row m) = asV (lD s.Λ) row m := by unfold asV; rw [if_neg (fun q => h67 (by rw [q]))]
          refine wp_iload_n (pc := 75) dX9_findWalks_75 rfl ?_
          refine wp_top (asV (lD s.Λ) row m) eas ?_
          refine wp_istore (pc := 76) (L' := [_, _, _, _, _]) dX9_findWalks_76 (Nat.le_of_ble_eq_true rfl) rfl rfl ?_
          refine wp_aload_n (pc := 78) dX9_findWalks_78 rfl ?_
          refine wf_getR (pc := 79) dX9_findWalks_79 fl_X9_63 lk_150 (H.r 150 28 167 rfl) ?_
          refine wp_iload_n (pc := 82) dX9_findWalks_82 rfl ?_
          refine wp_aload_n (pc := 83) dX9_findWalks_83 rfl ?_
          refine wf_getI (pc := 84) dX9_findWalks_84 fl_X9_215 lk_150 ?_
          rw [show M1.1 150 29 = nI (cntC (isW s) row) from (s1.2 150 (by omega) 29).trans hc]
          refine wp_if_eq (pc := 87) 101 dX9_findWalks_87 (by decide) (fun h87 => ?_) (fun h87 => ?_)
          · have hc0 : cntC (isW s) row = 0 := (nI_eq (by omega) (by omega)).mp h87
            refine wp_iload (pc := 101) dX9_findWalks_101 rfl ?_
            refine wp_goto (pc := 103) 108 dX9_findWalks_103 (by decide) ?_
            refine wf_iast (pc := 108) (j := m) dX9_findWalks_108 lk_167 rfl (by omega) ?_
            refine wp_iinc1 (pc := 109) (L' := [_, _, _, _, _]) dX9_findWalks_109 rfl rfl rfl ?_
            refine wp_goto (pc := 112) 34 dX9_findWalks_112 (by decide) ?_
            refine ih (m + 1) _ _ _ (by omega) (by omega) (s1.tr (Sm.w (by omega) (by omega))) (fun j hj => ?_) (fun j hj => (wI_nk (by omega)).trans (ho j (by omega)))
            by_cases ej : j = m
            · subst ej
              rw [wI_at, hws]
              first | (rw [if_pos (Or.inl hc0)]; done) | (rw [if_pos (Or.inr h98)]; done) | exact (if_neg (by rintro (q | q); exact hc0 q; exact h98 q)).symm
            · exact (wI_nk ej).trans (hd j (by omega))
          · have hc0 : ¬ cntC (isW s) row = 0 := fun q => h87 (by rw [q]; rfl)
            refine wp_aload_n (pc := 90) dX9_findWalks_90 rfl ?_
            refine wf_getR (pc := 91) dX9_findWalks_91 fl_X9_63 lk_150 (H.r 150 28 167 rfl) ?_
            refine wp_iload_n (pc := 94) dX9_findWalks_94 rfl ?_
            refine wf_iald (pc := 95) (j := m) dX9_findWalks_95 lk_167 rfl (by omega) ?_
            rw [hm0]
            refine wp_iload (pc := 96) dX9_findWalks_96 rfl ?_
            refine wp_icmp_ne (pc := 98) 106 dX9_findWalks_98 (by decide) (fun h98 => ?_) (fun h98 => ?_)
            · refine wp_bipush (pc := 106) (x := (-9)) dX9_findWalks_106 bp_m9 ?_
              refine wf_iast (pc := 108) (j := m) dX9_findWalks_108 lk_167 rfl (by omega) ?_
              refine wp_iinc1 (pc := 109) (L' := [_, _, _, _, _]) dX9_findWalks_109 rfl rfl rfl ?_
              refine wp_goto (pc := 112) 34 dX9_findWalks_112 (by decide) ?_
              refine ih (m + 1) _ _ _ (by omega) (by omega) (s1.tr (Sm.w (by omega) (by omega))) (fun j hj => ?_) (fun j hj => (wI_nk (by omega)).trans (ho j (by omega)))
              by_cases ej : j = m
              · subst ej
                rw [wI_at, hws]
                first | (rw [if_pos (Or.inl hc0)]; done) | (rw [if_pos (Or.inr h98)]; done) | exact (if_neg (by rintro (q | q); exact hc0 q; exact h98 q)).symm
              · exact (wI_nk ej).trans (hd j (by omega))
            · refine wp_iload (pc := 101) dX9_findWalks_101 rfl ?_
              refine wp_goto (pc := 103) 108 dX9_findWalks_103 (by decide) ?_
              refine wf_iast (pc := 108) (j := m) dX9_findWalks_108 lk_167 rfl (by omega) ?_
              refine wp_iinc1 (pc := 109) (L' := [_, _, _, _, _]) dX9_findWalks_109 rfl rfl rfl ?_
              refine wp_goto (pc := 112) 34 dX9_findWalks_112 (by decide) ?_
              refine ih (m + 1) _ _ _ (by omega) (by omega) (s1.tr (Sm.w (by omega) (by omega))) (fun j hj => ?_) (fun j hj => (wI_nk (by omega)).trans (ho j (by omega)))
              by_cases ej : j = m
              · subst ej
                rw [wI_at, hws]
                first | (rw [if_pos (Or.inl hc0)]; done) | (rw [if_pos (Or.inr h98)]; done) | exact (if_neg (by rintro (q | q); exact hc0 q; exact h98 q)).symm
              · exact (wI_nk ej).trans (hd j (by omega))
        · have eas : nI 9 = asV (lD s.Λ) row m := by unfold asV; rw [if_pos ((nI_eq (by omega) (by omega)).mp h67)]
          refine wp_bipush (pc := 70) (x := nI 9) dX9_findWalks_70 bp_9 ?_
          refine wp_goto (pc := 72) 76 dX9_findWalks_72 (by decide) ?_
          refine wp_top (asV (lD s.Λ) row m) eas ?_
          refine wp_istore (pc := 76) (L' := [_, _, _, _, _]) dX9_findWalks_76 (Nat.le_of_ble_eq_true rfl) rfl rfl ?_
          refine wp_aload_n (pc := 78) dX9_findWalks_78 rfl ?_
          refine wf_getR (pc := 79) dX9_findWalks_79 fl_X9_63 lk_150 (H.r 150 28 167 rfl) ?_
          refine wp_iload_n (pc := 82) dX9_findWalks_82 rfl ?_
          refine wp_aload_n (pc := 83) dX9_findWalks_83 rfl ?_
          refine wf_getI (pc := 84) dX9_findWalks_84 fl_X9_215 lk_150 ?_
          rw [show M1.1 150 29 = nI (cntC (isW s) row) from (s1.2 150 (by omega) 29).trans hc]
          refine wp_if_eq (pc := 87) 101 dX9_findWalks_87 (by decide) (fun h87 => ?_) (fun h87 => ?_)
          · have hc0 : cntC (isW s) row = 0 := (nI_eq (by omega) (by omega)).mp h87
            refine wp_iload (pc := 101) dX9_findWalks_101 rfl ?_
            refine wp_goto (pc := 103) 108 dX9_findWalks_103 (by decide) ?_
            refine wf_iast (pc := 108) (j := m) dX9_findWalks_108 lk_167 rfl (by omega) ?_
            refine wp_iinc1 (pc := 109) (L' := [_, _, _, _, _]) dX9_findWalks_109 rfl rfl rfl ?_
            refine wp_goto (pc := 112) 34 dX9_findWalks_112 (by decide) ?_
            refine ih (m + 1) _ _ _ (by omega) (by omega) (s1.tr (Sm.w (by omega) (by omega))) (fun j hj => ?_) (fun j hj => (wI_nk (by omega)).trans (ho j (by omega)))
            by_cases ej : j = m
            · subst ej
              rw [wI_at, hws]
              first | (rw [if_pos (Or.inl hc0)]; done) | (rw [if_pos (Or.inr h98)]; done) | exact (if_neg (by rintro (q | q); exact hc0 q; exact h98 q)).symm
            · exact (wI_nk ej).trans (hd j (by omega))
          · have hc0 : ¬ cntC (isW s) row = 0 := fun q => h87 (by rw [q]; rfl)
            refine wp_aload_n (pc := 90) dX9_findWalks_90 rfl ?_
            refine wf_getR (pc := 91) dX9_findWalks_91 fl_X9_63 lk_150 (H.r 150 28 167 rfl) ?_
            refine wp_iload_n (pc := 94) dX9_findWalks_94 rfl ?_
            refine wf_iald (pc := 95) (j := m) dX9_findWalks_95 lk_167 rfl (by omega) ?_
            rw [hm0]
            refine wp_iload (pc := 96) dX9_findWalks_96 rfl ?_
            refine wp_icmp_ne (pc := 98) 106 dX9_findWalks_98 (by decide) (fun h98 => ?_) (fun h98 => ?_)
            · refine wp_bipush (pc := 106) (x := (-9)) dX9_findWalks_106 bp_m9 ?_
              refine wf_iast (pc := 108) (j := m) dX9_findWalks_108 lk_167 rfl (by omega) ?_
              refine wp_iinc1 (pc := 109) (L' := [_, _, _, _, _]) dX9_findWalks_109 rfl rfl rfl ?_
              refine wp_goto (pc := 112) 34 dX9_findWalks_112 (by decide) ?_
              refine ih (m + 1) _ _ _ (by omega) (by omega) (s1.tr (Sm.w (by omega) (by omega))) (fun j hj => ?_) (fun j hj => (wI_nk (by omega)).trans (ho j (by omega)))
              by_cases ej : j = m
              · subst ej
                rw [wI_at, hws]
                first | (rw [if_pos (Or.inl hc0)]; done) | (rw [if_pos (Or.inr h98)]; done) | exact (if_neg (by rintro (q | q); exact hc0 q; exact h98 q)).symm
              · exact (wI_nk ej).trans (hd j (by omega))
            · refine wp_iload (pc := 101) dX9_findWalks_101 rfl ?_
              refine wp_goto (pc := 103) 108 dX9_findWalks_103 (by decide) ?_
              refine wf_iast (pc := 108) (j := m) dX9_findWalks_108 lk_167 rfl (by omega) ?_
              refine wp_iinc1 (pc := 109) (L' := [_, _, _, _, _]) dX9_findWalks_109 rfl rfl rfl ?_
              refine wp_goto (pc := 112) 34 dX9_findWalks_112 (by decide) ?_
              refine ih (m + 1) _ _ _ (by omega) (by omega) (s1.tr (Sm.w (by omega) (by omega))) (fun j hj => ?_) (fun j hj => (wI_nk (by omega)).trans (ho j (by omega)))
              by_cases ej : j = m
              · subst ej
                rw [wI_at, hws]
                first | (rw [if_pos (Or.inl hc0)]; done) | (rw [if_pos (Or.inr h98)]; done) | exact (if_neg (by rintro (q | q); exact hc0 q; exact h98 q)).symm
              · exact (wI_nk ej).trans (hd j (by omega))
  have loop : ∀ (q row : Nat) (M1 : Mm) (z1 z2 z3 : Option Value), q = ((lD s.Λ + 1) ^ lM s.Λ) - row → row ≤ ((lD s.Λ + 1) ^ lM s.Λ) → XM M1 s → Fm M M1 → M1.1 150 29 = nI (cntC (isW s) row) → (∀ m, m < lM s.Λ → M1.1 167 m = wiC (isW s) (fun r => asV (lD s.Λ) r m) (M.1 167 m) row) → Wp E K mX9_findWalks 2 (0, 0) 7 [some (.ref (K.1 + 150)), some (.int (nI row)), z1, z2, z3] [] 168 M1 0 0 (zV E K (fun M' => XM M' s ∧ Fm M M' ∧ M'.1 150 29 = nI (cntC (isW s) ((lD s.Λ + 1) ^ lM s.Λ)) ∧ ∀ m, m < lM s.Λ → M'.1 167 m = wiC (isW s) (fun r => asV (lD s.Λ) r m) (M.1 167 m) ((lD s.Λ + 1) ^ lM s.Λ))) := by
    intro q
    induction q with
    | zero =>
      intro row M1 z1 z2 z3 hq hrow H F hc h0
      refine wp_iload_n (pc := 7) dX9_findWalks_7 rfl ?_
      refine wp_aload_n (pc := 8) dX9_findWalks_8 rfl ?_
      refine wf_getI (pc := 9) dX9_findWalks_9 fl_X9_69 lk_150 ?_
      rw [H.w.1]
      refine wp_ic (pc := 12) (x := nI 1) dX9_findWalks_12 ic_1 ?_
      refine wp_iadd (pc := 13) dX9_findWalks_13 ?_
      refine wp_top (nI (lD s.Λ + 1)) (nI_add _ _) ?_
      refine wp_aload_n (pc := 14) dX9_findWalks_14 rfl ?_
      refine wf_getI (pc := 15) dX9_findWalks_15 fl_X9_76 lk_150 ?_
      rw [H.w.2.1]
      refine wf_callSi (pc := 18) dX9_findWalks_18 cl_X9_188 (cR_power (b := lD s.Λ + 1) (n := lM s.Λ) (by omega)) rfl rfl (Nat.le_of_ble_eq_true rfl) (by decide) ⟨Nat.le_refl _, Nat.le_refl _⟩ (fun r18 M18 q18 => ?_)
      rw [q18.1, q18.2]
      refine wp_icmp_ge (pc := 21) 131 dX9_findWalks_21 (by decide) (fun h21 => ?_) (fun h21 => ?_)
      · refine wf_vret (pc := 131) dX9_findWalks_131 rfl ?_
        rw [show row = ((lD s.Λ + 1) ^ lM s.Λ) by omega] at hc h0
        exact ⟨H, F, hc, h0⟩
      · exact absurd (nI_le (by omega) (by omega)) h21
    | succ q ih =>
      intro row M1 z1 z2 z3 hq hrow H F hc h0
      refine wp_iload_n (pc := 7) dX9_findWalks_7 rfl ?_
      refine wp_aload_n (pc := 8) dX9_findWalks_8 rfl ?_
      refine wf_getI (pc := 9) dX9_findWalks_9 fl_X9_69 lk_150 ?_
      rw [H.w.1]
      refine wp_ic (pc := 12) (x := nI 1) dX9_findWalks_12 ic_1 ?_
      refine wp_iadd (pc := 13) dX9_findWalks_13 ?_
      refine wp_top (nI (lD s.Λ + 1)) (nI_add _ _) ?_
      refine wp_aload_n (pc := 14) dX9_findWalks_14 rfl ?_
      refine wf_getI (pc := 15) dX9_findWalks_15 fl_X9_76 lk_150 ?_
      rw [H.w.2.1]
      refine wf_callSi (pc := 18) dX9_findWalks_18 cl_X9_188 (cR_power (b := lD s.Λ + 1) (n := lM s.Λ) (by omega)) rfl rfl (Nat.le_of_ble_eq_true rfl) (by decide) ⟨Nat.le_refl _, Nat.le_refl _⟩ (fun r18 M18 q18 => ?_)
      rw [q18.1, q18.2]
      refine wp_icmp_ge (pc := 21) 131 dX9_findWalks_21 (by decide) (fun h21 => ?_) (fun h21 => ?_)
      · exact absurd h21 (nI_ge (by omega) (by omega))
      · refine wp_aload_n (pc := 24) dX9_findWalks_24 rfl ?_
        refine wp_iload_n (pc := 25) dX9_findWalks_25 rfl ?_
        refine wf_callVi (pc := 26) dX9_findWalks_26 cl_X9_218 (cR_isWalk H V hB (by omega)) lk_150 rfl rfl rfl rfl (Nat.le_of_ble_eq_true rfl) (by decide) ⟨Nat.le_refl _, Nat.le_refl _⟩ (fun r26 M26 q26 => ?_)
        rw [q26.1, q26.2]
        refine wp_if_eq (pc := 29) 125 dX9_findWalks_29 (by decide) (fun h29 => ?_) (fun h29 => ?_)
        · have h29 := b2i_0 h29
          refine wp_iinc1 (pc := 125) (L' := [_, _, _, _, _]) dX9_findWalks_125 rfl rfl rfl ?_
          refine wp_goto (pc := 128) 7 dX9_findWalks_128 (by decide) ?_
          exact ih (row + 1) _ _ _ _ (by omega) (by omega) H F (by rw [cnt_n h29]; exact hc) (fun m hm => (h0 m hm).trans (show _ = if isW s row = true then _ else _ by rw [h29]; rfl))
        · have h29 := b2i_1 h29
          refine wp_ic (pc := 32) (x := nI 0) dX9_findWalks_32 ic_0 ?_
          refine wp_istore_n (pc := 33) (L' := [_, _, _, _, _]) dX9_findWalks_33 (Nat.le_of_ble_eq_true rfl) rfl rfl ?_
          refine inner row M1 (by omega) h29 H F hc h0 (fun M2 z4 z5 z6 H2 F2 hc2 h2 => ?_) (lM s.Λ) 0 M1 _ _ (by omega) (by omega) Sm.rf (fun j hj => absurd hj (Nat.not_lt_zero _)) (fun j _ => rfl)
          refine wp_aload_n (pc := 115) dX9_findWalks_115 rfl ?_
          refine wp_dup (pc := 116) dX9_findWalks_116 rfl ?_
          refine wf_getI (pc := 117) dX9_findWalks_117 fl_X9_215 lk_150 ?_
          rw [hc2]
          refine wp_ic (pc := 120) (x := nI 1) dX9_findWalks_120 ic_1 ?_
          refine wp_iadd (pc := 121) dX9_findWalks_121 ?_
          refine wp_top (nI (cntC (isW s) (row + 1))) (by rw [cnt_y h29]; exact nI_1 _) ?_
          refine wf_putI (pc := 122) dX9_findWalks_122 fl_X9_215 lk_150 ?_
          refine wp_iinc1 (pc := 125) (L' := [_, _, _, _, _]) dX9_findWalks_125 rfl rfl rfl ?_
          refine wp_goto (pc := 128) 7 dX9_findWalks_128 (by decide) ?_
          exact ih (row + 1) _ _ _ _ (by omega) (by omega) (H2.f (k := 29) _ (by decide)) (F2.tr (Fm.w (by decide))) (wI_at _ _ _ _) (fun m hm => (wI_na (by decide)).trans (h2 m hm))
  refine wp_aload_n (pc := 0) dX9_findWalks_0 rfl ?_
  refine wp_ic (pc := 1) (x := nI 0) dX9_findWalks_1 ic_0 ?_
  refine wf_putI (pc := 2) dX9_findWalks_2 fl_X9_215 lk_150 ?_
  refine wp_ic (pc := 5) (x := nI 0) dX9_findWalks_5 ic_0 ?_
  refine wp_istore_n (pc := 6) (L' := [_, _, _, _, _]) dX9_findWalks_6 (Nat.le_of_ble_eq_true rfl) rfl rfl ?_
  exact loop ((lD s.Λ + 1) ^ lM s.Λ) 0 (wI M 150 29 (nI 0)) none none none (Nat.sub_zero _).symm (Nat.zero_le _) (H.f (k := 29) _ (by decide)) (Fm.w (by decide)) (wI_at _ _ _ _) (fun m _ => wI_na (by decide))
theorem cm_walks {l : Launch} {K : CtxT} {M : Mm} {s : Sv} {B : Nat} (H : XM M s) (V : OkV B s) (hB : B ≤ 9999) : Ci l K 3 mX9_walks [.ref (K.1 + 150)] M (fun r M' => r = oWalks s ∧ XM M' s ∧ Fm M M') := by
  refine ci_of (L := [some (.ref (K.1 + 150))]) (by decide +kernel) (Nat.le_of_ble_eq_true rfl) rfl rfl (fun E => ?_)
  refine wp_aload_n (pc := 0) dX9_walks_0 rfl ?_
  refine wp_ic (pc := 1) (x := nI 0) dX9_walks_1 ic_0 ?_
  refine wf_putI (pc := 2) dX9_walks_2 fl_X9_66 lk_150 ?_
  have F : Fm M (wI M 150 0 (nI 0)) := Fm.w (by decide)
  have H := H.f (k := 0) (nI 0) (by decide)
  generalize wI M 150 0 (nI 0) = M5 at H F ⊢
  refine wp_aload_n (pc := 5) dX9_walks_5 rfl ?_
  refine wf_callVv (pc := 6) dX9_walks_6 cl_X9_221 (cR_findWalks H V hB) lk_150 rfl rfl rfl rfl (Nat.le_of_ble_eq_true rfl) (by decide) ⟨Nat.le_refl _, Nat.le_refl _⟩ (fun M6 q6 => ?_)
  have F := F.tr q6.2.1
  have H := q6.1
  refine wp_aload_n (pc := 9) dX9_walks_9 rfl ?_
  refine wf_getI (pc := 10) dX9_walks_10 fl_X9_215 lk_150 ?_
  rw [q6.2.2.1]
  refine wf_iret (pc := 13) dX9_walks_13 rfl ?_
  exact ⟨walks_eq V, H, F⟩
theorem cm_sure {l : Launch} {K : CtxT} {M : Mm} {s : Sv} {B : Nat} (H : XM M s) (V : OkV B s) (hB : B ≤ 9999) {y : Int32} : Ci l K 3 mX9_sure [.ref (K.1 + 150), .int y] M (fun r M' => r = oSure s y ∧ XM M' s ∧ Fm M M') := by
  refine ci_of (L := [some (.ref (K.1 + 150)), some (.int y)]) (by decide +kernel) (Nat.le_of_ble_eq_true rfl) rfl rfl (fun E => ?_)
  have hD := V.l.1
  have hM := V.l.2.1
  have hN := (pw5 hD hM).2
  have hcl := cntC_le (isW s) ((lD s.Λ + 1) ^ lM s.Λ)
  refine wp_aload_n (pc := 0) dX9_sure_0 rfl ?_
  refine wp_ic (pc := 1) (x := nI 0) dX9_sure_1 ic_0 ?_
  refine wf_putI (pc := 2) dX9_sure_2 fl_X9_66 lk_150 ?_
  have F : Fm M (wI M 150 0 (nI 0)) := Fm.w (by decide)
  have H := H.f (k := 0) (nI 0) (by decide)
  generalize wI M 150 0 (nI 0) = M5 at H F ⊢
  refine wp_aload_n (pc := 5) dX9_sure_5 rfl ?_
  refine wp_iload_n (pc := 6) dX9_sure_6 rfl ?_
  refine wf_callVi (pc := 7) dX9_sure_7 cl_X9_161 (c_noMan H.r V.l.N H.w) lk_150 rfl rfl rfl rfl (Nat.le_of_ble_eq_true rfl) (by decide) ⟨Nat.le_refl _, Nat.le_refl _⟩ (fun r7 M7 q7 => ?_)
  rw [q7.1, q7.2]
  refine wp_if_eq (pc := 10) 15 dX9_sure_10 (by decide) (fun h10 => ?_) (fun h10 => ?_)
  · have h10 := b2i_0 h10
    have h10 : inD y (lM s.Λ) = true := by simpa using h10
    obtain ⟨m, hm, em⟩ := inD_of (by assumption) (show lM s.Λ < 2 ^ 31 by have := V.l.N.2.1; omega)
    have hm4 : m < 5 := Nat.lt_of_lt_of_le hm V.l.N.2.1
    subst em
    refine wp_aload_n (pc := 15) dX9_sure_15 rfl ?_
    refine wf_callVv (pc := 16) dX9_sure_16 cl_X9_221 (cR_findWalks H V hB) lk_150 rfl rfl rfl rfl (Nat.le_of_ble_eq_true rfl) (by decide) ⟨Nat.le_refl _, Nat.le_refl _⟩ (fun M16 q16 => ?_)
    have F := F.tr q16.2.1
    have H := q16.1
    refine wp_aload_n (pc := 19) dX9_sure_19 rfl ?_
    refine wf_getI (pc := 20) dX9_sure_20 fl_X9_215 lk_150 ?_
    rw [q16.2.2.1]
    refine wp_if_ne (pc := 23) 31 dX9_sure_23 (by decide) (fun h23 => ?_) (fun h23 => ?_)
    · have e : ¬ cntC (isW s) ((lD s.Λ + 1) ^ lM s.Λ) = 0 := fun q => h23 (by rw [q]; rfl)
      refine wp_aload_n (pc := 31) dX9_sure_31 rfl ?_
      refine wf_getR (pc := 32) dX9_sure_32 fl_X9_63 lk_150 (H.r 150 28 167 rfl) ?_
      refine wp_iload_n (pc := 35) dX9_sure_35 rfl ?_
      refine wf_iald (pc := 36) (j := m) dX9_sure_36 lk_167 rfl (by omega) ?_
      try rw [q16.2.2.2 m hm]
      refine wf_iret (pc := 37) dX9_sure_37 rfl ?_
      unfold oSure
      rw [if_pos h10, nI_cl (by have := V.l.2.1; omega), ← sure_eq V hm (M5.1 167 m)]
      first | (rw [if_pos e]; exact ⟨rfl, H, F⟩) | (rw [if_neg e]; exact ⟨rfl, H, F⟩)
    · have e : cntC (isW s) ((lD s.Λ + 1) ^ lM s.Λ) = 0 := (nI_eq (by omega) (by omega)).mp h23
      refine wp_bipush (pc := 26) (x := (-9)) dX9_sure_26 bp_m9 ?_
      refine wp_goto (pc := 28) 37 dX9_sure_28 (by decide) ?_
      try rw [q16.2.2.2 m hm]
      refine wf_iret (pc := 37) dX9_sure_37 rfl ?_
      unfold oSure
      rw [if_pos h10, nI_cl (by have := V.l.2.1; omega), ← sure_eq V hm (M5.1 167 m)]
      first | (rw [if_pos e]; exact ⟨rfl, H, F⟩) | (rw [if_neg e]; exact ⟨rfl, H, F⟩)
  · have h10 := b2i_1 h10
    have h10 : inD y (lM s.Λ) = false := by simpa using h10
    refine wp_ic (pc := 13) (x := (-1)) dX9_sure_13 ic_m1 ?_
    refine wf_iret (pc := 14) dX9_sure_14 rfl ?_
    unfold oSure; rw [if_neg (by rw [h10]; decide)]
    exact ⟨rfl, H, F⟩
