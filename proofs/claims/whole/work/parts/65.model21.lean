theorem if_dec {α : Type} {a s : Nat} {x y : α} : (if a = s then x else y) = if decide (s ≤ a ∧ a ≤ s) = true then x else y := by
  by_cases h : a = s
  · rw [if_pos h, if_pos (decide_eq_true (by omega))]
  · rw [if_neg h, if_neg (by rw [decide_eq_true_eq]; omega)]
theorem if_dec4 {α : Type} {a : Nat} {x y : α} : (if a ≤ 4 then x else y) = if decide (0 ≤ a ∧ a ≤ 4) = true then x else y := by
  by_cases h : a ≤ 4
  · rw [if_pos h, if_pos (decide_eq_true (by omega))]
  · rw [if_neg h, if_neg (by rw [decide_eq_true_eq]; omega)]
theorem c_rooms {l : Launch} {K : CtxT} {M : Mm} {Λ : Lw} {P : Pg} (hR : RS M) (hL : OkL Λ) (hX : XQ M Λ P) : Ci l K 0 mX9_rooms [.ref (K.1 + 150)] M (fun r M' => r = nI (mkN (romB Λ P) (lD Λ)) ∧ M' = M) := by
  refine ci_of (L := [some (.ref (K.1 + 150)), none, none, none, none]) (by decide +kernel) (Nat.le_of_ble_eq_true rfl) rfl rfl (fun E => ?_)
  have hD := hL.1
  have hM := hL.2.1
  have inner : ∀ d, d < lD Λ → (∀ z, Wp E K mX9_rooms 0 (0, 0) 53 [some (.ref (K.1 + 150)), some (.int (nI (mkN (romB Λ P) d))), some (.int (nI d)), some (.int (nI (cntC (kpB P d) (lM Λ)))), z] [] 168 M 0 0 (zI E K (fun r M' => r = nI (mkN (romB Λ P) (lD Λ)) ∧ M' = M))) → ∀ (q m : Nat), q = lM Λ - m → m ≤ lM Λ → Wp E K mX9_rooms 0 (0, 0) 17 [some (.ref (K.1 + 150)), some (.int (nI (mkN (romB Λ P) d))), some (.int (nI d)), some (.int (nI (cntC (kpB P d) m))), some (.int (nI m))] [] 168 M 0 0 (zI E K (fun r M' => r = nI (mkN (romB Λ P) (lD Λ)) ∧ M' = M)) := by
    intro d hd cont q
    induction q with
    | zero =>
      intro m hq hm
      refine wp_iload (pc := 17) dX9_rooms_17 rfl ?_
      refine wp_aload_n (pc := 19) dX9_rooms_19 rfl ?_
      refine wf_getI (pc := 20) dX9_rooms_20 fl_X9_103 lk_150 ?_
      rw [hX.1.2.1]
      refine wp_icmp_ge (pc := 23) 53 dX9_rooms_23 (by decide) (fun h23 => ?_) (fun h23 => ?_)
      · rw [show m = lM Λ by omega]
        exact cont _
      · exact absurd (nI_le (by omega) (by omega)) h23
    | succ q ih =>
      intro m hq hm
      refine wp_iload (pc := 17) dX9_rooms_17 rfl ?_
      refine wp_aload_n (pc := 19) dX9_rooms_19 rfl ?_
      refine wf_getI (pc := 20) dX9_rooms_20 fl_X9_103 lk_150 ?_
      rw [hX.1.2.1]
      refine wp_icmp_ge (pc := 23) 53 dX9_rooms_23 (by decide) (fun h23 => ?_) (fun h23 => ?_)
      · exact absurd h23 (nI_ge (by omega) (by omega))
      · refine wp_iload_n (pc := 26) dX9_rooms_26 rfl ?_
        refine wp_aload_n (pc := 27) dX9_rooms_27 rfl ?_
        refine wf_getR (pc := 28) dX9_rooms_28 fl_X9_32 lk_150 (hR 150 15 157 rfl) ?_
        refine wp_ic (pc := 31) (x := nI 3) dX9_rooms_31 ic_3 ?_
        refine wp_iload (pc := 32) dX9_rooms_32 rfl ?_
        refine wp_imul (pc := 34) dX9_rooms_34 ?_
        refine wf_iald (pc := 35) (j := (3 * m)) dX9_rooms_35 lk_157 (pk_mul _ _) (by omega) ?_
        rw [show M.1 157 (3 * m) = P (8 + m) from (hX.2.2.2 m (by omega)).1]
        refine wp_iload_n (pc := 36) dX9_rooms_36 rfl ?_
        refine wp_icmp_ne (pc := 37) 44 dX9_rooms_37 (by decide) (fun h37 => ?_) (fun h37 => ?_)
        · have ec : cntC (kpB P d) (m + 1) = (cntC (kpB P d) m) + 0 := by rw [cnt_n (show kpB P d m = false from decide_eq_false h37)]; rfl
          refine wp_ic (pc := 44) (x := nI 0) dX9_rooms_44 ic_0 ?_
          refine wp_iadd (pc := 45) dX9_rooms_45 ?_
          rw [nI_add]
          refine wp_istore_n (pc := 46) (L' := [_, _, _, _, _]) dX9_rooms_46 (Nat.le_of_ble_eq_true rfl) rfl rfl ?_
          refine wp_iinc1 (pc := 47) (L' := [_, _, _, _, _]) dX9_rooms_47 rfl rfl rfl ?_
          refine wp_goto (pc := 50) 17 dX9_rooms_50 (by decide) ?_
          have := ih (m + 1) (by omega) (by omega)
          rw [ec] at this
          exact this
        · have ec : cntC (kpB P d) (m + 1) = (cntC (kpB P d) m) + 1 := cnt_y (decide_eq_true h37)
          refine wp_ic (pc := 40) (x := nI 1) dX9_rooms_40 ic_1 ?_
          refine wp_goto (pc := 41) 45 dX9_rooms_41 (by decide) ?_
          refine wp_iadd (pc := 45) dX9_rooms_45 ?_
          rw [nI_add]
          refine wp_istore_n (pc := 46) (L' := [_, _, _, _, _]) dX9_rooms_46 (Nat.le_of_ble_eq_true rfl) rfl rfl ?_
          refine wp_iinc1 (pc := 47) (L' := [_, _, _, _, _]) dX9_rooms_47 rfl rfl rfl ?_
          refine wp_goto (pc := 50) 17 dX9_rooms_50 (by decide) ?_
          have := ih (m + 1) (by omega) (by omega)
          rw [ec] at this
          exact this
  have loop : ∀ (q d : Nat) (z1 z2 : Option Value), q = lD Λ - d → d ≤ lD Λ → Wp E K mX9_rooms 0 (0, 0) 4 [some (.ref (K.1 + 150)), some (.int (nI (mkN (romB Λ P) d))), some (.int (nI d)), z1, z2] [] 168 M 0 0 (zI E K (fun r M' => r = nI (mkN (romB Λ P) (lD Λ)) ∧ M' = M)) := by
    intro q
    induction q with
    | zero =>
      intro d z1 z2 hq hd
      refine wp_iload_n (pc := 4) dX9_rooms_4 rfl ?_
      refine wp_aload_n (pc := 5) dX9_rooms_5 rfl ?_
      refine wf_getI (pc := 6) dX9_rooms_6 fl_X9_100 lk_150 ?_
      rw [hX.1.1]
      refine wp_icmp_ge (pc := 9) 83 dX9_rooms_9 (by decide) (fun h9 => ?_) (fun h9 => ?_)
      · refine wp_iload_n (pc := 83) dX9_rooms_83 rfl ?_
        refine wf_iret (pc := 84) dX9_rooms_84 rfl ?_
        exact ⟨by rw [show d = lD Λ by omega], rfl⟩
      · exact absurd (nI_le (by omega) (by omega)) h9
    | succ q ih =>
      intro d z1 z2 hq hd
      obtain ⟨er, er3⟩ := rmN_eq hL (show d < lD Λ by omega)
      have hcl := cntC_le (kpB P d) (lM Λ)
      refine wp_iload_n (pc := 4) dX9_rooms_4 rfl ?_
      refine wp_aload_n (pc := 5) dX9_rooms_5 rfl ?_
      refine wf_getI (pc := 6) dX9_rooms_6 fl_X9_100 lk_150 ?_
      rw [hX.1.1]
      refine wp_icmp_ge (pc := 9) 83 dX9_rooms_9 (by decide) (fun h9 => ?_) (fun h9 => ?_)
      · exact absurd h9 (nI_ge (by omega) (by omega))
      · refine wp_ic (pc := 12) (x := nI 0) dX9_rooms_12 ic_0 ?_
        refine wp_istore_n (pc := 13) (L' := [_, _, _, _, _]) dX9_rooms_13 (Nat.le_of_ble_eq_true rfl) rfl rfl ?_
        refine wp_ic (pc := 14) (x := nI 0) dX9_rooms_14 ic_0 ?_
        refine wp_istore (pc := 15) (L' := [_, _, _, _, _]) dX9_rooms_15 (Nat.le_of_ble_eq_true rfl) rfl rfl ?_
        refine inner d (by omega) (fun z => ?_) (lM Λ) 0 (by omega) (by omega)
        refine wp_iload_n (pc := 53) dX9_rooms_53 rfl ?_
        refine wp_iload_n (pc := 54) dX9_rooms_54 rfl ?_
        refine wp_aload_n (pc := 55) dX9_rooms_55 rfl ?_
        refine wf_getR (pc := 56) dX9_rooms_56 fl_X9_29 lk_150 (hR 150 14 156 rfl) ?_
        refine wp_ic (pc := 59) (x := nI 4) dX9_rooms_59 ic_4 ?_
        refine wp_iload_n (pc := 60) dX9_rooms_60 rfl ?_
        refine wp_imul (pc := 61) dX9_rooms_61 ?_
        refine wp_ic (pc := 62) (x := nI 2) dX9_rooms_62 ic_2 ?_
        refine wp_iadd (pc := 63) dX9_rooms_63 ?_
        refine wf_iald (pc := 64) (j := (4 * d + 2)) dX9_rooms_64 lk_156 (by rw [pk_mul, nI_add]) (by omega) ?_
        rw [show M.1 156 (4 * d + 2) = nI (rmN Λ d) from (hX.2.2.1 d (by omega)).2.2.1.trans er]
        refine wp_icmp_ge (pc := 65) 74 dX9_rooms_65 (by decide) (fun h65 => ?_) (fun h65 => ?_)
        · have em : mkN (romB Λ P) (d + 1) = (mkN (romB Λ P) d) := if_neg (by show ¬ decide (cntC (kpB P d) (lM Λ) < rmN Λ d) = true; rw [decide_eq_true_eq]; exact fun q => absurd h65 (nI_ge q (by omega)))
          refine wp_ic (pc := 74) (x := nI 0) dX9_rooms_74 ic_0 ?_
          refine wp_ior (pc := 75) dX9_rooms_75 ?_
          first | rw [or_bit (show d < 5 by omega)] | rw [or_nI, Nat.or_zero]
          refine wp_istore_n (pc := 76) (L' := [_, _, _, _, _]) dX9_rooms_76 (Nat.le_of_ble_eq_true rfl) rfl rfl ?_
          refine wp_iinc1 (pc := 77) (L' := [_, _, _, _, _]) dX9_rooms_77 rfl rfl rfl ?_
          refine wp_goto (pc := 80) 4 dX9_rooms_80 (by decide) ?_
          have := ih (d + 1) (some (.int (nI (cntC (kpB P d) (lM Λ))))) z (by omega) (by omega)
          rw [em] at this
          exact this
        · have em : mkN (romB Λ P) (d + 1) = (mkN (romB Λ P) d) ||| 2 ^ d := if_pos (decide_eq_true (by rcases Nat.lt_or_ge (cntC (kpB P d) (lM Λ)) (rmN Λ d) with q | q; exact q; exact absurd (nI_le q (by omega)) h65))
          refine wp_ic (pc := 68) (x := nI 1) dX9_rooms_68 ic_1 ?_
          refine wp_iload_n (pc := 69) dX9_rooms_69 rfl ?_
          refine wp_ishl (pc := 70) dX9_rooms_70 ?_
          refine wp_goto (pc := 71) 75 dX9_rooms_71 (by decide) ?_
          refine wp_ior (pc := 75) dX9_rooms_75 ?_
          first | rw [or_bit (show d < 5 by omega)] | rw [or_nI, Nat.or_zero]
          refine wp_istore_n (pc := 76) (L' := [_, _, _, _, _]) dX9_rooms_76 (Nat.le_of_ble_eq_true rfl) rfl rfl ?_
          refine wp_iinc1 (pc := 77) (L' := [_, _, _, _, _]) dX9_rooms_77 rfl rfl rfl ?_
          refine wp_goto (pc := 80) 4 dX9_rooms_80 (by decide) ?_
          have := ih (d + 1) (some (.int (nI (cntC (kpB P d) (lM Λ))))) z (by omega) (by omega)
          rw [em] at this
          exact this
  refine wp_ic (pc := 0) (x := nI 0) dX9_rooms_0 ic_0 ?_
  refine wp_istore_n (pc := 1) (L' := [_, _, _, _, _]) dX9_rooms_1 (Nat.le_of_ble_eq_true rfl) rfl rfl ?_
  refine wp_ic (pc := 2) (x := nI 0) dX9_rooms_2 ic_0 ?_
  refine wp_istore_n (pc := 3) (L' := [_, _, _, _, _]) dX9_rooms_3 (Nat.le_of_ble_eq_true rfl) rfl rfl ?_
  exact loop (lD Λ) 0 none none (by omega) (by omega)
theorem c_readMan {l : Launch} {K : CtxT} {M : Mm} {T : Pg} {n k : Nat} {σ0 : Rs} {l0 q : Nat} {Λ : Lw} {P : Pg} (hR : RS M) (h : RT M T n (k + 1)) (hs : rnS σ0 T (k + 1) = some (77, 1, q, Λ, P)) (hX : XQ M Λ P) (hF : OkF Λ P) (hM : lM Λ < 5) : Ci l K 2 mX9_readMan [.ref (K.1 + 150)] M (PO σ0 T n M k) := by
  refine ci_of (L := [some (.ref (K.1 + 150)), none, none, none, none]) (by decide +kernel) (Nat.le_of_ble_eq_true rfl) rfl rfl (fun E => ?_)
  have hn := h.2.2.2.1
  have hkn := h.2.2.2.2
  have hL := hF.1
  have hD := hL.1
  have tail : ∀ (sg : Option Value) (dv : Int32) (P1 : Pg) (M1 M2 : Mm) (r2 : Int32) (ok : Nat → Bool) (z3 z4 : Option Value), RT M1 T n (k + 1 + 1) → rnS σ0 T (k + 1 + 1) = some (77, 2, q, Λ, P1) → P1 = upd P (8 + lM Λ) dv → XQ M1 Λ P → Sq M M1 → FgA M1 T n (k + 1 + 1) ok r2 M2 → (∀ t, tkM 2 t Λ P1 = if ok (fgN t) = true then some (Λ, upd P1 (13 + lM Λ) (nI (fgN t))) else none) → (∀ f, ok f = true → f < 5 ∧ ∀ d, d < lD Λ → dv = nI d → nI f = P d) → (dv = no9 ∨ ∃ d, d < lD Λ ∧ dv = nI d) → Wp E K mX9_readMan 2 (0, 0) 112 [some (.ref (K.1 + 150)), sg, some (.int dv), z3, z4] [.int r2] 168 M2 0 0 (zI E K (PO σ0 T n M k)) := by
    intro sg dv P1 M1 M2 r2 ok z3 z4 T1 hs2 eP X1 Q1 q2 htk hok hdv
    refine wp_istore_n (pc := 112) (L' := [_, _, _, _, _]) dX9_readMan_112 (Nat.le_of_ble_eq_true rfl) rfl rfl ?_
    refine wp_iload_n (pc := 113) dX9_readMan_113 rfl ?_
    refine wp_bipush (pc := 114) (x := (-9)) dX9_readMan_114 bp_m9 ?_
    refine wp_icmp_ne (pc := 116) 124 dX9_readMan_116 (by decide) (fun h116 => ?_) (fun h116 => ?_)
    · obtain ⟨ys, zs, xs, us, vs⟩ := q2.y h116
      rw [us]
      have Ts : RT M2 T n (k + 1 + 1 + 1) := by rw [vs]; exact T1.nx ys
      have sqs : Sq M1 M2 := by rw [vs]; exact Sq.f (Or.inl rfl)
      obtain ⟨s, es⟩ : ∃ x, fgN (byt T (k + 1 + 1)) = x := ⟨_, rfl⟩
      rw [es] at zs xs ⊢
      refine wp_aload_n (pc := 124) dX9_readMan_124 rfl ?_
      refine wp_ic (pc := 125) (x := nI 0) dX9_readMan_125 ic_0 ?_
      refine wp_ic (pc := 126) (x := nI 1) dX9_readMan_126 ic_1 ?_
      refine wf_callVi (pc := 127) dX9_readMan_127 cl_X9_93 (c_figR ((Q1.tr sqs).rs hR) Ts (a := 0) (b := 1) (by decide) (by decide)) lk_150 rfl rfl rfl rfl (Nat.le_of_ble_eq_true rfl) (by decide) ⟨Nat.le_refl _, Nat.le_refl _⟩ (fun r127 M127 q127 => ?_)
      refine wp_istore (pc := 130) (L' := [_, _, _, _, _]) dX9_readMan_130 (Nat.le_of_ble_eq_true rfl) rfl rfl ?_
      refine wp_iload (pc := 132) dX9_readMan_132 rfl ?_
      refine wp_bipush (pc := 134) (x := (-9)) dX9_readMan_134 bp_m9 ?_
      refine wp_icmp_ne (pc := 136) 141 dX9_readMan_136 (by decide) (fun h136 => ?_) (fun h136 => ?_)
      · obtain ⟨yx, zx, xx, ux, vx⟩ := q127.y h136
        rw [ux]
        have Tx : RT M127 T n (k + 1 + 1 + 1 + 1) := by rw [vx]; exact Ts.nx yx
        have sqx : Sq M2 M127 := by rw [vx]; exact Sq.f (Or.inl rfl)
        obtain ⟨x, ex⟩ : ∃ x, fgN (byt T (k + 1 + 1 + 1)) = x := ⟨_, rfl⟩
        rw [ex] at zx xx ⊢
        have zx := of_decide_eq_true zx
        have hX3 : XQ M127 Λ P := by rw [vx, vs]; exact (X1.pl _).pl _
        have hR := ((Q1.tr sqs).tr sqx).rs hR
        have hs3 := rn_s hs2 (stp_M (by rw [htk, es, if_pos zs]))
        obtain ⟨ho1, ho2⟩ := hok s zs
        refine wp_aload_n (pc := 141) dX9_readMan_141 rfl ?_
        refine wf_getR (pc := 142) dX9_readMan_142 fl_X9_32 lk_150 (hR 150 15 157 rfl) ?_
        refine wp_ic (pc := 145) (x := nI 3) dX9_readMan_145 ic_3 ?_
        refine wp_aload_n (pc := 146) dX9_readMan_146 rfl ?_
        refine wf_getI (pc := 147) dX9_readMan_147 fl_X9_103 lk_150 ?_
        rw [hX3.1.2.1]
        refine wp_imul (pc := 150) dX9_readMan_150 ?_
        refine wp_iload_n (pc := 151) dX9_readMan_151 rfl ?_
        refine wf_iast (pc := 152) (j := (3 * lM Λ)) dX9_readMan_152 lk_157 (pk_mul _ _) (by omega) ?_
        refine wp_aload_n (pc := 153) dX9_readMan_153 rfl ?_
        refine wf_getR (pc := 154) dX9_readMan_154 fl_X9_32 lk_150 (hR 150 15 157 rfl) ?_
        refine wp_ic (pc := 157) (x := nI 3) dX9_readMan_157 ic_3 ?_
        refine wp_aload_n (pc := 158) dX9_readMan_158 rfl ?_
        refine wf_getI (pc := 159) dX9_readMan_159 fl_X9_103 lk_150 ?_
        rw [show (wI M127 157 (3 * lM Λ) dv).1 150 11 = nI (lM Λ) from hX3.1.2.1]
        refine wp_imul (pc := 162) dX9_readMan_162 ?_
        refine wp_ic (pc := 163) (x := nI 1) dX9_readMan_163 ic_1 ?_
        refine wp_iadd (pc := 164) dX9_readMan_164 ?_
        refine wp_iload_n (pc := 165) dX9_readMan_165 rfl ?_
        refine wf_iast (pc := 166) (j := (3 * lM Λ + 1)) dX9_readMan_166 lk_157 (by rw [pk_mul, nI_add]) (by omega) ?_
        refine wp_aload_n (pc := 167) dX9_readMan_167 rfl ?_
        refine wf_getR (pc := 168) dX9_readMan_168 fl_X9_32 lk_150 (hR 150 15 157 rfl) ?_
        refine wp_ic (pc := 171) (x := nI 3) dX9_readMan_171 ic_3 ?_
        refine wp_aload_n (pc := 172) dX9_readMan_172 rfl ?_
        refine wf_getI (pc := 173) dX9_readMan_173 fl_X9_103 lk_150 ?_
        rw [show (wI (wI M127 157 (3 * lM Λ) dv) 157 (3 * lM Λ + 1) (nI s)).1 150 11 = nI (lM Λ) from hX3.1.2.1]
        refine wp_imul (pc := 176) dX9_readMan_176 ?_
        refine wp_ic (pc := 177) (x := nI 2) dX9_readMan_177 ic_2 ?_
        refine wp_iadd (pc := 178) dX9_readMan_178 ?_
        refine wp_iload (pc := 179) dX9_readMan_179 rfl ?_
        refine wf_iast (pc := 181) (j := (3 * lM Λ + 2)) dX9_readMan_181 lk_157 (by rw [pk_mul, nI_add]) (by omega) ?_
        refine wp_aload_n (pc := 182) dX9_readMan_182 rfl ?_
        refine wp_dup (pc := 183) dX9_readMan_183 rfl ?_
        refine wf_getI (pc := 184) dX9_readMan_184 fl_X9_103 lk_150 ?_
        rw [show (wI (wI (wI M127 157 (3 * lM Λ) dv) 157 (3 * lM Λ + 1) (nI s)) 157 (3 * lM Λ + 2) (nI x)).1 150 11 = nI (lM Λ) from hX3.1.2.1]
        refine wp_ic (pc := 187) (x := nI 1) dX9_readMan_187 ic_1 ?_
        refine wp_iadd (pc := 188) dX9_readMan_188 ?_
        refine wp_top (nI (lM Λ + 1)) (nI_1 _) ?_
        refine wf_putI (pc := 189) dX9_readMan_189 fl_X9_103 lk_150 ?_
        refine wp_ic (pc := 192) (x := nI 1) dX9_readMan_192 ic_1 ?_
        refine wf_zret (pc := 193) (true) dX9_readMan_193 rfl rfl ?_
        have hs4 := rn_s hs3 (stp_M (by rw [tkM_3 hM, ex, if_pos (by omega)]))
        subst eP
        refine ⟨((((((Q1.tr sqs).tr sqx).tr (Sq.w (by omega))).tr (Sq.w (by omega))).tr (Sq.w (by omega))).tr (Sq.f (by omega))), Or.inr ⟨rfl, k + 1 + 1 + 1 + 1, by omega, Tx.mv (by rw [wI_nk (by decide), wI_na (by decide), wI_na (by decide), wI_na (by decide)]) (by rw [wI_nk (by decide), wI_na (by decide), wI_na (by decide), wI_na (by decide)]; exact Tx.1.2) (fun j => by rw [wI_na (by decide), wI_na (by decide), wI_na (by decide), wI_na (by decide)]) Tx.2.2.2.2, _, _, _, _, hs4, ?_, OkF_man hF hM ho1 (by omega) hdv ho2⟩⟩
        rcases XQ_man (a := dv) (b := nI s) (c := nI x) hX3 hD with w | w
        · exact w
        · omega
      · obtain ⟨w1, w2⟩ := q127.n h136
        rw [w1]
        have hsq : Sq M M2 := Q1.tr sqs
        have hs3 := rn_s hs2 (stp_M (by rw [htk, es, if_pos zs]))
        have hbad : Bad σ0 T n M2 := ⟨k + 1 + 1 + 1, Ts, fl_of hs3 (by show (77 : Nat) ≠ 1; decide) Ts.2.2.2.2 (fun w => stp_M0 (by rw [tkM_3 hM, if_neg (fun q => of_decide_eq_false (w2 w) (by omega))]))⟩
        refine wp_ic (pc := 139) (x := nI 0) dX9_readMan_139 ic_0 ?_
        refine wf_zret (pc := 140) (false) dX9_readMan_140 rfl rfl ?_
        exact ⟨hsq, Or.inl ⟨rfl, hbad⟩⟩
    · obtain ⟨w1, w2⟩ := q2.n h116
      rw [w1]
      have hsq : Sq M M1 := Q1
      have hbad : Bad σ0 T n M1 := ⟨k + 1 + 1, T1, fl_of hs2 (by show (77 : Nat) ≠ 1; decide) T1.2.2.2.2 (fun w => stp_M0 (by rw [htk, if_neg (by rw [w2 w]; decide)]))⟩
      refine wp_bipush (pc := 119) (x := (-9)) dX9_readMan_119 bp_m9 ?_
      refine wp_goto (pc := 121) 130 dX9_readMan_121 (by decide) ?_
      refine wp_istore (pc := 130) (L' := [_, _, _, _, _]) dX9_readMan_130 (Nat.le_of_ble_eq_true rfl) rfl rfl ?_
      refine wp_iload (pc := 132) dX9_readMan_132 rfl ?_
      refine wp_bipush (pc := 134) (x := (-9)) dX9_readMan_134 bp_m9 ?_
      refine wp_icmp_ne (pc := 136) 141 dX9_readMan_136 (by decide) (fun h136 => ?_) (fun h136 => ?_)
      · exact absurd rfl h136
      · refine wp_ic (pc := 139) (x := nI 0) dX9_readMan_139 ic_0 ?_
        refine wf_zret (pc := 140) (false) dX9_readMan_140 rfl rfl ?_
        exact ⟨hsq, Or.inl ⟨rfl, hbad⟩⟩
  refine wp_aload_n (pc := 0) dX9_readMan_0 rfl ?_
  refine wf_getI (pc := 1) dX9_readMan_1 fl_X9_84 lk_150 ?_
  rw [h.1.2]
  refine wp_aload_n (pc := 4) dX9_readMan_4 rfl ?_
  refine wf_getI (pc := 5) dX9_readMan_5 fl_X9_81 lk_150 ?_
  rw [h.1.1]
  refine wp_icmp_ge (pc := 8) 29 dX9_readMan_8 (by decide) (fun h8 => ?_) (fun h8 => ?_)
  · have hns : k + 1 < n → byt T (k + 1) ≠ 45 := fun q => absurd h8 (nI_ge q (by omega))
    refine wp_ic (pc := 29) (x := nI 0) dX9_readMan_29 ic_0 ?_
    refine wp_istore_n (pc := 30) (L' := [_, _, _, _, _]) dX9_readMan_30 (Nat.le_of_ble_eq_true rfl) rfl rfl ?_
    refine wp_aload_n (pc := 31) dX9_readMan_31 rfl ?_
    refine wp_dup (pc := 32) dX9_readMan_32 rfl ?_
    refine wf_getI (pc := 33) dX9_readMan_33 fl_X9_84 lk_150 ?_
    rw [h.1.2]
    refine wp_iload_n (pc := 36) dX9_readMan_36 rfl ?_
    refine wp_if_eq (pc := 37) 44 dX9_readMan_37 (by decide) (fun h37 => ?_) (fun h37 => ?_)
    · refine wp_ic (pc := 44) (x := nI 0) dX9_readMan_44 ic_0 ?_
      refine wp_iadd (pc := 45) dX9_readMan_45 ?_
      refine wp_top (nI (k + 1)) (by rw [nI_add]) ?_
      refine wf_putI (pc := 46) dX9_readMan_46 fl_X9_84 lk_150 ?_
      have T0 : RT (wI M 150 3 (nI (k + 1))) T n (k + 1) := h.mv (wI_nk (by decide)) (wI_at _ _ _ _) (fun j => wI_na (by decide)) h.2.2.2.2
      have X0 := hX.pl (nI (k + 1))
      have Q0 : Sq M (wI M 150 3 (nI (k + 1))) := Sq.f (Or.inl rfl)
      generalize wI M 150 3 (nI (k + 1)) = M0 at T0 X0 Q0 ⊢
      refine wp_iload_n (pc := 49) dX9_readMan_49 rfl ?_
      refine wp_if_eq (pc := 50) 58 dX9_readMan_50 (by decide) (fun h50 => ?_) (fun h50 => ?_)
      · refine wp_aload_n (pc := 58) dX9_readMan_58 rfl ?_
        refine wp_aload_n (pc := 59) dX9_readMan_59 rfl ?_
        refine wf_callVi (pc := 60) dX9_readMan_60 cl_X9_106 (c_rooms (Q0.rs hR) hL X0) lk_150 rfl rfl rfl rfl (Nat.le_of_ble_eq_true rfl) (by decide) ⟨Nat.le_refl _, Nat.le_refl _⟩ (fun r60 M60 q60 => ?_)
        rw [q60.1, q60.2]
        refine wf_callVi (pc := 63) dX9_readMan_63 cl_X9_110 (c_one (Q0.rs hR) T0 (Nat.lt_of_lt_of_le (mkN_lt _ _) (Nat.pow_le_pow_right (n := 2) (by decide) hD))) lk_150 rfl rfl rfl rfl (Nat.le_of_ble_eq_true rfl) (by decide) ⟨Nat.le_refl _, Nat.le_refl _⟩ (fun r63 M63 q63 => ?_)
        refine wp_istore_n (pc := 66) (L' := [_, _, _, _, _]) dX9_readMan_66 (Nat.le_of_ble_eq_true rfl) rfl rfl ?_
        refine wp_iload_n (pc := 67) dX9_readMan_67 rfl ?_
        refine wp_if_ne (pc := 68) 79 dX9_readMan_68 (by decide) (fun h68 => ?_) (fun h68 => ?_)
        · exact absurd (by decide) h68
        · refine wp_iload_n (pc := 71) dX9_readMan_71 rfl ?_
          refine wp_bipush (pc := 72) (x := (-9)) dX9_readMan_72 bp_m9 ?_
          refine wp_icmp_ne (pc := 74) 79 dX9_readMan_74 (by decide) (fun h74 => ?_) (fun h74 => ?_)
          · obtain ⟨yd, zd, xd, ud, vd⟩ := q63.y h74
            rw [ud]
            have Td : RT M63 T n (k + 1 + 1) := by rw [vd]; exact T0.nx yd
            have sqd : Sq M0 M63 := by rw [vd]; exact Sq.f (Or.inl rfl)
            obtain ⟨d, ed⟩ : ∃ x, fgN (byt T (k + 1)) = x := ⟨_, rfl⟩
            rw [ed] at zd xd ⊢
            rw [mkN_bit, Bool.and_eq_true, decide_eq_true_eq] at zd
            obtain ⟨sd, hsd, esd⟩ := hF.2.2.1 d zd.1
            have X63 : XQ M63 Λ P := by rw [vd]; exact X0.pl _
            have hs2 := rn_s hs (stp_M (by rw [tkM_1n hL hM (hns (by omega)), ed, if_pos zd]))
            refine wp_iload_n (pc := 79) dX9_readMan_79 rfl ?_
            refine wp_if_eq (pc := 80) 92 dX9_readMan_80 (by decide) (fun h80 => ?_) (fun h80 => ?_)
            · refine wp_aload_n (pc := 92) dX9_readMan_92 rfl ?_
              refine wp_aload_n (pc := 93) dX9_readMan_93 rfl ?_
              refine wf_getR (pc := 94) dX9_readMan_94 fl_X9_29 lk_150 ((Q0.tr sqd).rs hR 150 14 156 rfl) ?_
              refine wp_ic (pc := 97) (x := nI 4) dX9_readMan_97 ic_4 ?_
              refine wp_iload_n (pc := 98) dX9_readMan_98 rfl ?_
              refine wp_imul (pc := 99) dX9_readMan_99 ?_
              refine wf_iald (pc := 100) (j := (4 * d)) dX9_readMan_100 lk_156 (pk_mul _ _) (by omega) ?_
              rw [show M63.1 156 (4 * d) = nI sd from (X63.2.2.1 d zd.1).1.trans esd]
              refine wp_aload_n (pc := 101) dX9_readMan_101 rfl ?_
              refine wf_getR (pc := 102) dX9_readMan_102 fl_X9_29 lk_150 ((Q0.tr sqd).rs hR 150 14 156 rfl) ?_
              refine wp_ic (pc := 105) (x := nI 4) dX9_readMan_105 ic_4 ?_
              refine wp_iload_n (pc := 106) dX9_readMan_106 rfl ?_
              refine wp_imul (pc := 107) dX9_readMan_107 ?_
              refine wf_iald (pc := 108) (j := (4 * d)) dX9_readMan_108 lk_156 (pk_mul _ _) (by omega) ?_
              rw [show M63.1 156 (4 * d) = nI sd from (X63.2.2.1 d zd.1).1.trans esd]
              refine wf_callVi (pc := 109) dX9_readMan_109 cl_X9_93 (c_figR ((Q0.tr sqd).rs hR) Td (a := sd) (b := sd) (by omega) (by omega)) lk_150 rfl rfl rfl rfl (Nat.le_of_ble_eq_true rfl) (by decide) ⟨Nat.le_refl _, Nat.le_refl _⟩ (fun r109 M109 q109 => ?_)
              exact tail _ (nI d) (upd P (8 + lM Λ) (nI d)) M63 M109 r109 _ _ _ Td hs2 rfl X63 (Q0.tr sqd) q109 (fun t => by rw [tkM_2n hL.N hM zd.1 hsd (upd_at _ _ _) ((upd_n (by omega)).trans esd)]; exact if_dec) (fun f hf => ⟨by have := of_decide_eq_true hf; omega, fun d' hd' e => by rw [show d' = d from (nI_eq (by omega) (by omega)).mp e.symm, esd, show f = sd by have := of_decide_eq_true hf; omega]⟩) (Or.inr ⟨d, zd.1, rfl⟩)
            · exact absurd (by decide) h80
          · obtain ⟨w1, w2⟩ := q63.n h74
            rw [w1]
            have hbad : Bad σ0 T n M0 := ⟨k + 1, T0, fl_of hs (by show (77 : Nat) ≠ 1; decide) T0.2.2.2.2 (fun w => stp_M0 (by rw [tkM_1n hL hM (hns w), if_neg (fun q => by have := w2 w; rw [mkN_bit, decide_eq_true q.1, q.2] at this; cases this)]))⟩
            refine wp_ic (pc := 77) (x := nI 0) dX9_readMan_77 ic_0 ?_
            refine wf_zret (pc := 78) (false) dX9_readMan_78 rfl rfl ?_
            exact ⟨Q0, Or.inl ⟨rfl, hbad⟩⟩
      · exact absurd (by decide) h50
    · exact absurd (by decide) h37
  · have hk1 : k + 1 < n := by rcases Nat.lt_or_ge (k + 1) n with q | q; exact q; exact absurd (nI_le q (by omega)) h8
    refine wp_aload_n (pc := 11) dX9_readMan_11 rfl ?_
    refine wf_getR (pc := 12) dX9_readMan_12 fl_X9_7 lk_150 (hR 150 1 151 rfl) ?_
    refine wp_aload_n (pc := 15) dX9_readMan_15 rfl ?_
    refine wf_getI (pc := 16) dX9_readMan_16 fl_X9_84 lk_150 ?_
    rw [h.1.2]
    refine wf_iald (pc := 19) (j := (k + 1)) dX9_readMan_19 lk_151 rfl (by omega) ?_
    rw [(h.byte hk1).2]
    refine wp_bipush (pc := 20) (x := nI 45) dX9_readMan_20 bp_45 ?_
    refine wp_icmp_ne (pc := 22) 29 dX9_readMan_22 (by decide) (fun h22 => ?_) (fun h22 => ?_)
    · have hns : k + 1 < n → byt T (k + 1) ≠ 45 := fun _ q => h22 (by rw [q])
      refine wp_ic (pc := 29) (x := nI 0) dX9_readMan_29 ic_0 ?_
      refine wp_istore_n (pc := 30) (L' := [_, _, _, _, _]) dX9_readMan_30 (Nat.le_of_ble_eq_true rfl) rfl rfl ?_
      refine wp_aload_n (pc := 31) dX9_readMan_31 rfl ?_
      refine wp_dup (pc := 32) dX9_readMan_32 rfl ?_
      refine wf_getI (pc := 33) dX9_readMan_33 fl_X9_84 lk_150 ?_
      rw [h.1.2]
      refine wp_iload_n (pc := 36) dX9_readMan_36 rfl ?_
      refine wp_if_eq (pc := 37) 44 dX9_readMan_37 (by decide) (fun h37 => ?_) (fun h37 => ?_)
      · refine wp_ic (pc := 44) (x := nI 0) dX9_readMan_44 ic_0 ?_
        refine wp_iadd (pc := 45) dX9_readMan_45 ?_
        refine wp_top (nI (k + 1)) (by rw [nI_add]) ?_
        refine wf_putI (pc := 46) dX9_readMan_46 fl_X9_84 lk_150 ?_
        have T0 : RT (wI M 150 3 (nI (k + 1))) T n (k + 1) := h.mv (wI_nk (by decide)) (wI_at _ _ _ _) (fun j => wI_na (by decide)) h.2.2.2.2
        have X0 := hX.pl (nI (k + 1))
        have Q0 : Sq M (wI M 150 3 (nI (k + 1))) := Sq.f (Or.inl rfl)
        generalize wI M 150 3 (nI (k + 1)) = M0 at T0 X0 Q0 ⊢
        refine wp_iload_n (pc := 49) dX9_readMan_49 rfl ?_
        refine wp_if_eq (pc := 50) 58 dX9_readMan_50 (by decide) (fun h50 => ?_) (fun h50 => ?_)
        · refine wp_aload_n (pc := 58) dX9_readMan_58 rfl ?_
          refine wp_aload_n (pc := 59) dX9_readMan_59 rfl ?_
          refine wf_callVi (pc := 60) dX9_readMan_60 cl_X9_106 (c_rooms (Q0.rs hR) hL X0) lk_150 rfl rfl rfl rfl (Nat.le_of_ble_eq_true rfl) (by decide) ⟨Nat.le_refl _, Nat.le_refl _⟩ (fun r60 M60 q60 => ?_)
          rw [q60.1, q60.2]
          refine wf_callVi (pc := 63) dX9_readMan_63 cl_X9_110 (c_one (Q0.rs hR) T0 (Nat.lt_of_lt_of_le (mkN_lt _ _) (Nat.pow_le_pow_right (n := 2) (by decide) hD))) lk_150 rfl rfl rfl rfl (Nat.le_of_ble_eq_true rfl) (by decide) ⟨Nat.le_refl _, Nat.le_refl _⟩ (fun r63 M63 q63 => ?_)
          refine wp_istore_n (pc := 66) (L' := [_, _, _, _, _]) dX9_readMan_66 (Nat.le_of_ble_eq_true rfl) rfl rfl ?_
          refine wp_iload_n (pc := 67) dX9_readMan_67 rfl ?_
          refine wp_if_ne (pc := 68) 79 dX9_readMan_68 (by decide) (fun h68 => ?_) (fun h68 => ?_)
          · exact absurd (by decide) h68
          · refine wp_iload_n (pc := 71) dX9_readMan_71 rfl ?_
            refine wp_bipush (pc := 72) (x := (-9)) dX9_readMan_72 bp_m9 ?_
            refine wp_icmp_ne (pc := 74) 79 dX9_readMan_74 (by decide) (fun h74 => ?_) (fun h74 => ?_)
            · obtain ⟨yd, zd, xd, ud, vd⟩ := q63.y h74
              rw [ud]
              have Td : RT M63 T n (k + 1 + 1) := by rw [vd]; exact T0.nx yd
              have sqd : Sq M0 M63 := by rw [vd]; exact Sq.f (Or.inl rfl)
              obtain ⟨d, ed⟩ : ∃ x, fgN (byt T (k + 1)) = x := ⟨_, rfl⟩
              rw [ed] at zd xd ⊢
              rw [mkN_bit, Bool.and_eq_true, decide_eq_true_eq] at zd
              obtain ⟨sd, hsd, esd⟩ := hF.2.2.1 d zd.1
              have X63 : XQ M63 Λ P := by rw [vd]; exact X0.pl _
              have hs2 := rn_s hs (stp_M (by rw [tkM_1n hL hM (hns (by omega)), ed, if_pos zd]))
              refine wp_iload_n (pc := 79) dX9_readMan_79 rfl ?_
              refine wp_if_eq (pc := 80) 92 dX9_readMan_80 (by decide) (fun h80 => ?_) (fun h80 => ?_)
              · refine wp_aload_n (pc := 92) dX9_readMan_92 rfl ?_
                refine wp_aload_n (pc := 93) dX9_readMan_93 rfl ?_
                refine wf_getR (pc := 94) dX9_readMan_94 fl_X9_29 lk_150 ((Q0.tr sqd).rs hR 150 14 156 rfl) ?_
                refine wp_ic (pc := 97) (x := nI 4) dX9_readMan_97 ic_4 ?_
                refine wp_iload_n (pc := 98) dX9_readMan_98 rfl ?_
                refine wp_imul (pc := 99) dX9_readMan_99 ?_
                refine wf_iald (pc := 100) (j := (4 * d)) dX9_readMan_100 lk_156 (pk_mul _ _) (by omega) ?_
                rw [show M63.1 156 (4 * d) = nI sd from (X63.2.2.1 d zd.1).1.trans esd]
                refine wp_aload_n (pc := 101) dX9_readMan_101 rfl ?_
                refine wf_getR (pc := 102) dX9_readMan_102 fl_X9_29 lk_150 ((Q0.tr sqd).rs hR 150 14 156 rfl) ?_
                refine wp_ic (pc := 105) (x := nI 4) dX9_readMan_105 ic_4 ?_
                refine wp_iload_n (pc := 106) dX9_readMan_106 rfl ?_
                refine wp_imul (pc := 107) dX9_readMan_107 ?_
                refine wf_iald (pc := 108) (j := (4 * d)) dX9_readMan_108 lk_156 (pk_mul _ _) (by omega) ?_
                rw [show M63.1 156 (4 * d) = nI sd from (X63.2.2.1 d zd.1).1.trans esd]
                refine wf_callVi (pc := 109) dX9_readMan_109 cl_X9_93 (c_figR ((Q0.tr sqd).rs hR) Td (a := sd) (b := sd) (by omega) (by omega)) lk_150 rfl rfl rfl rfl (Nat.le_of_ble_eq_true rfl) (by decide) ⟨Nat.le_refl _, Nat.le_refl _⟩ (fun r109 M109 q109 => ?_)
                exact tail _ (nI d) (upd P (8 + lM Λ) (nI d)) M63 M109 r109 _ _ _ Td hs2 rfl X63 (Q0.tr sqd) q109 (fun t => by rw [tkM_2n hL.N hM zd.1 hsd (upd_at _ _ _) ((upd_n (by omega)).trans esd)]; exact if_dec) (fun f hf => ⟨by have := of_decide_eq_true hf; omega, fun d' hd' e => by rw [show d' = d from (nI_eq (by omega) (by omega)).mp e.symm, esd, show f = sd by have := of_decide_eq_true hf; omega]⟩) (Or.inr ⟨d, zd.1, rfl⟩)
              · exact absurd (by decide) h80
            · obtain ⟨w1, w2⟩ := q63.n h74
              rw [w1]
              have hbad : Bad σ0 T n M0 := ⟨k + 1, T0, fl_of hs (by show (77 : Nat) ≠ 1; decide) T0.2.2.2.2 (fun w => stp_M0 (by rw [tkM_1n hL hM (hns w), if_neg (fun q => by have := w2 w; rw [mkN_bit, decide_eq_true q.1, q.2] at this; cases this)]))⟩
              refine wp_ic (pc := 77) (x := nI 0) dX9_readMan_77 ic_0 ?_
              refine wf_zret (pc := 78) (false) dX9_readMan_78 rfl rfl ?_
              exact ⟨Q0, Or.inl ⟨rfl, hbad⟩⟩
        · exact absurd (by decide) h50
      · exact absurd (by decide) h37
    · have e45 : byt T (k + 1) = 45 := (nI_eq (by have := (h.byte hk1).1; omega) (by decide)).mp h22
      refine wp_ic (pc := 25) (x := nI 1) dX9_readMan_25 ic_1 ?_
      refine wp_goto (pc := 26) 30 dX9_readMan_26 (by decide) ?_
      refine wp_istore_n (pc := 30) (L' := [_, _, _, _, _]) dX9_readMan_30 (Nat.le_of_ble_eq_true rfl) rfl rfl ?_
      refine wp_aload_n (pc := 31) dX9_readMan_31 rfl ?_
      refine wp_dup (pc := 32) dX9_readMan_32 rfl ?_
      refine wf_getI (pc := 33) dX9_readMan_33 fl_X9_84 lk_150 ?_
      rw [h.1.2]
      refine wp_iload_n (pc := 36) dX9_readMan_36 rfl ?_
      refine wp_if_eq (pc := 37) 44 dX9_readMan_37 (by decide) (fun h37 => ?_) (fun h37 => ?_)
      · exact absurd h37 (by decide)
      · refine wp_ic (pc := 40) (x := nI 1) dX9_readMan_40 ic_1 ?_
        refine wp_goto (pc := 41) 45 dX9_readMan_41 (by decide) ?_
        refine wp_iadd (pc := 45) dX9_readMan_45 ?_
        refine wp_top (nI (k + 1 + 1)) (by rw [nI_add]) ?_
        refine wf_putI (pc := 46) dX9_readMan_46 fl_X9_84 lk_150 ?_
        have T0 := h.nx hk1
        have X0 := hX.pl (nI (k + 1 + 1))
        have Q0 : Sq M (wI M 150 3 (nI (k + 1 + 1))) := Sq.f (Or.inl rfl)
        generalize wI M 150 3 (nI (k + 1 + 1)) = M0 at T0 X0 Q0 ⊢
        refine wp_iload_n (pc := 49) dX9_readMan_49 rfl ?_
        refine wp_if_eq (pc := 50) 58 dX9_readMan_50 (by decide) (fun h50 => ?_) (fun h50 => ?_)
        · exact absurd h50 (by decide)
        · refine wp_bipush (pc := 53) (x := (-9)) dX9_readMan_53 bp_m9 ?_
          refine wp_goto (pc := 55) 66 dX9_readMan_55 (by decide) ?_
          refine wp_istore_n (pc := 66) (L' := [_, _, _, _, _]) dX9_readMan_66 (Nat.le_of_ble_eq_true rfl) rfl rfl ?_
          refine wp_iload_n (pc := 67) dX9_readMan_67 rfl ?_
          refine wp_if_ne (pc := 68) 79 dX9_readMan_68 (by decide) (fun h68 => ?_) (fun h68 => ?_)
          · refine wp_iload_n (pc := 79) dX9_readMan_79 rfl ?_
            refine wp_if_eq (pc := 80) 92 dX9_readMan_80 (by decide) (fun h80 => ?_) (fun h80 => ?_)
            · exact absurd h80 (by decide)
            · refine wp_aload_n (pc := 83) dX9_readMan_83 rfl ?_
              refine wp_ic (pc := 84) (x := nI 0) dX9_readMan_84 ic_0 ?_
              refine wp_ic (pc := 85) (x := nI 4) dX9_readMan_85 ic_4 ?_
              refine wf_callVi (pc := 86) dX9_readMan_86 cl_X9_93 (c_figR (Q0.rs hR) T0 (a := 0) (b := 4) (by decide) (by decide)) lk_150 rfl rfl rfl rfl (Nat.le_of_ble_eq_true rfl) (by decide) ⟨Nat.le_refl _, Nat.le_refl _⟩ (fun r86 M86 q86 => ?_)
              refine wp_goto (pc := 89) 112 dX9_readMan_89 (by decide) ?_
              exact tail _ no9 (upd P (8 + lM Λ) no9) M0 M86 r86 _ _ _ T0 (rn_s hs (stp_M (by rw [e45, tkM_1s hM]))) rfl X0 Q0 q86 (fun t => by rw [tkM_2s hM (upd_at _ _ _)]; exact if_dec4) (fun f hf => ⟨by have := of_decide_eq_true hf; omega, fun d' hd' e => absurd e.symm (nI_n9 (by omega))⟩) (Or.inl rfl)
          · exact absurd h68 (by decide)
