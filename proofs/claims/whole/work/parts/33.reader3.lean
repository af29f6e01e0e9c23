theorem kepN_upd (P : Pg) (d m0 : Nat) (x : Int32) : ∀ m, m ≤ m0 → kepN (upd P (8 + m0) x) d m = kepN P d m
  | 0, _ => rfl
  | m + 1, h => by
    have ih := kepN_upd P d m0 x m (by omega)
    show (if upd P (8 + m0) x (8 + m) = nI d then kepN (upd P (8 + m0) x) d m ||| 2 ^ m else kepN (upd P (8 + m0) x) d m) = _
    rw [ih, show upd P (8 + m0) x (8 + m) = P (8 + m) by simp [upd, show m ≠ m0 by omega]]
    rfl
theorem XR.mn {M : Mm} {p i q f : Nat} {Λ : Lw} {P : Pg} (h : XR M p i q Λ P) (hL : OkN Λ) (hf : f ≤ 1) (hM : lM Λ < 5) {x : Int32} (hx : x = if f = 1 then bit (lM Λ) else nI 0) : XR (wI (wI M 3 1 (nI (lM Λ + 1))) 3 3 (M.1 3 3 ||| x)) p i q (lwMan Λ (upd (lSi Λ) (lM Λ) (nI f))) P := by
  obtain ⟨h1, ⟨h2, h3, h4⟩, ⟨g, g1, g2, g3⟩, ⟨h6, h7, h8, h9⟩, h10⟩ := h
  refine ⟨h1, ⟨?_, ?_, ?_⟩, ?_, ⟨h6, h7, h8, h9⟩, h10.sm (lo := 3) (hi := 4) ((Sm.w (by omega) (by omega)).tr (Sm.w (by omega) (by omega))) (by omega)⟩
  · rw [wI_nk (by decide), wI_nk (by decide)]; exact h2
  · rw [wI_nk (by decide), wI_at]
  · rw [wI_nk (by decide), wI_nk (by decide)]; exact h4
  · rw [wI_at, g1]
    have w1 : g < 2 ^ (lM Λ + 1) := Nat.lt_of_lt_of_le g2 (Nat.pow_le_pow_right (by decide) (by omega))
    rcases Nat.lt_or_ge f 1 with q1 | q1
    · have : f = 0 := by omega
      subst this
      refine ⟨g, ?_, w1, fun m hm => ?_⟩
      · rw [hx, if_neg (by decide), or_nI, Nat.or_zero]
      · show g.testBit m = true ↔ upd (lSi Λ) (lM Λ) (nI 0) m = nI 1
        by_cases e : m = lM Λ
        · subst e
          simp [upd, Nat.testBit_lt_two_pow g2, show ¬ nI 0 = nI 1 by decide]
        · simp only [upd, if_neg e]
          exact g3 m (by have : m < lM Λ + 1 := hm; omega)
    · have : f = 1 := by omega
      subst this
      refine ⟨g ||| 2 ^ lM Λ, ?_, or_lt g2 (Nat.lt_succ_self _), fun m hm => ?_⟩
      · rw [hx, if_pos rfl, or_bit hM]
      · show (g ||| 2 ^ lM Λ).testBit m = true ↔ upd (lSi Λ) (lM Λ) (nI 1) m = nI 1
        rw [Nat.testBit_or, Nat.testBit_two_pow]
        by_cases e : m = lM Λ
        · subst e
          simp [upd]
        · simp only [upd, if_neg e]
          rw [show decide (lM Λ = m) = false by simp; omega, Bool.or_false]
          exact g3 m (by have : m < lM Λ + 1 := hm; omega)
theorem c_takesDog {l : Launch} {K : CtxT} {M : Mm} {p i q f : Nat} {Λ : Lw} {P : Pg} (hR : RS M) (hX : XR M p i q Λ P) (hL : OkN Λ) (hf : f ≤ 10) (hi : 1 ≤ i ∧ i ≤ 6) : Ci l K 1 mX3_takesDog [.ref (K.1 + 2), .int (fgI f)] M (Tk M p i (oD q (tkD i f Λ P))) := by
  refine ci_of (L := [some (.ref (K.1 + 2)), some (.int (fgI f)), none]) (by decide +kernel) (Nat.le_of_ble_eq_true rfl) rfl rfl (fun E => ?_)
  have hD := hL.1
  refine wp_aload_n (pc := 0) dX3_takesDog_0 rfl ?_
  refine wf_getR (pc := 1) dX3_takesDog_1 fl_X3_12 lk_2 (hR 2 0 3 rfl) ?_
  refine wf_getI (pc := 4) dX3_takesDog_4 fl_X3_68 IL_3.1 ?_
  rw [hX.2.1.1]
  refine wp_istore_n (pc := 7) (L' := [_, _, _]) dX3_takesDog_7 (Nat.le_of_ble_eq_true rfl) rfl rfl ?_
  refine wp_iload_n (pc := 8) dX3_takesDog_8 rfl ?_
  refine wp_ic (pc := 9) (x := nI 4) dX3_takesDog_9 ic_4 ?_
  refine wp_icmp_ge (pc := 10) 17 dX3_takesDog_10 (by decide) (fun h10 => ?_) (fun h10 => ?_)
  · have e0 : f = 10 ∨ 4 ≤ lD Λ := Or.inr (by rcases Nat.lt_or_ge (lD Λ) 4 with q | q; exact absurd h10 (nI_ge q (by omega)); exact q)
    refine wp_ic (pc := 17) (x := nI 0) dX3_takesDog_17 ic_0 ?_
    refine wf_zret (pc := 18) (false) dX3_takesDog_18 rfl rfl ?_
    exact Tk.no Sz.rf Sm.rf hX.1.1 hX.1.2.1 (by unfold oD tkD; rw [if_pos e0]; rfl)
  · have hD4 : lD Λ < 4 := by rcases Nat.lt_or_ge (lD Λ) 4 with q | q; exact q; exact absurd (nI_le q (by omega)) h10
    refine wp_iload_n (pc := 13) dX3_takesDog_13 rfl ?_
    refine wp_if_ge (pc := 14) 19 dX3_takesDog_14 (by decide) (fun h14 => ?_) (fun h14 => ?_)
    · have hf10 : ¬ f = 10 := fun q => Int32.not_lt.mpr h14 ((fgI_neg hf).mpr q)
      have e0 : ¬ (f = 10 ∨ 4 ≤ lD Λ) := by omega
      rw [fgI_n hf10]
      refine wp_aload_n (pc := 19) dX3_takesDog_19 rfl ?_
      refine wf_getI (pc := 20) dX3_takesDog_20 fl_X3_29 lk_2 ?_
      rw [hX.1.2.1]
      refine wp_ic (pc := 23) (x := nI 1) dX3_takesDog_23 ic_1 ?_
      refine wp_icmp_ne (pc := 24) 42 dX3_takesDog_24 (by decide) (fun h24 => ?_) (fun h24 => ?_)
      · have e1 : ¬ i = 1 := fun q => h24 (by rw [q])
        refine wp_aload_n (pc := 42) dX3_takesDog_42 rfl ?_
        refine wf_getI (pc := 43) dX3_takesDog_43 fl_X3_29 lk_2 ?_
        rw [hX.1.2.1]
        refine wp_ic (pc := 46) (x := nI 2) dX3_takesDog_46 ic_2 ?_
        refine wp_icmp_ne (pc := 47) 62 dX3_takesDog_47 (by decide) (fun h47 => ?_) (fun h47 => ?_)
        · have e2 : ¬ i = 2 := fun q => h47 (by rw [q])
          refine wp_aload_n (pc := 62) dX3_takesDog_62 rfl ?_
          refine wf_getR (pc := 63) dX3_takesDog_63 fl_X3_12 lk_2 (hR 2 0 3 rfl) ?_
          refine wf_getR (pc := 66) dX3_takesDog_66 fl_X3_100 IL_3.1 (hR 3 6 6 rfl) ?_
          refine wp_iload_n (pc := 69) dX3_takesDog_69 rfl ?_
          refine wp_iload_n (pc := 70) dX3_takesDog_70 rfl ?_
          refine wf_iast (pc := 71) (j := (lD Λ)) dX3_takesDog_71 IL_3.2.2.2.1 rfl (by omega) ?_
          refine wp_aload_n (pc := 72) dX3_takesDog_72 rfl ?_
          refine wf_getR (pc := 73) dX3_takesDog_73 fl_X3_12 lk_2 (hR 2 0 3 rfl) ?_
          refine wf_getR (pc := 76) dX3_takesDog_76 fl_X3_103 IL_3.1 (hR 3 7 7 rfl) ?_
          refine wp_iload_n (pc := 79) dX3_takesDog_79 rfl ?_
          refine wp_bipush (pc := 80) (x := (-9)) dX3_takesDog_80 bp_m9 ?_
          refine wf_iast (pc := 82) (j := (lD Λ)) dX3_takesDog_82 IL_3.2.2.2.2 rfl (by omega) ?_
          refine wp_aload_n (pc := 83) dX3_takesDog_83 rfl ?_
          refine wf_getR (pc := 84) dX3_takesDog_84 fl_X3_12 lk_2 (hR 2 0 3 rfl) ?_
          refine wp_dup (pc := 87) dX3_takesDog_87 rfl ?_
          refine wf_getI (pc := 88) dX3_takesDog_88 fl_X3_68 IL_3.1 ?_
          rw [show (wI (wI M 6 (lD Λ) (nI f)) 7 (lD Λ) (-9)).1 3 0 = nI (lD Λ) from hX.2.1.1]
          refine wp_ic (pc := 91) (x := nI 1) dX3_takesDog_91 ic_1 ?_
          refine wp_iadd (pc := 92) dX3_takesDog_92 ?_
          refine wp_top (nI (lD Λ + 1)) (nI_1 _) ?_
          refine wf_putI (pc := 93) dX3_takesDog_93 fl_X3_68 IL_3.1 ?_
          have hX1 := hX.dg (lD Λ) (nI f) no9
          refine wp_iload_n (pc := 96) dX3_takesDog_96 rfl ?_
          refine wp_ic (pc := 97) (x := nI 1) dX3_takesDog_97 ic_1 ?_
          refine wp_icmp_lt (pc := 98) 110 dX3_takesDog_98 (by decide) (fun h98 => ?_) (fun h98 => ?_)
          · have e3 : ¬ (1 ≤ f ∧ f ≤ 3) := fun q => nI_nlt q.1 (by omega) h98
            refine wp_ic (pc := 110) (x := nI 0) dX3_takesDog_110 ic_0 ?_
            refine wf_zret (pc := 111) (false) dX3_takesDog_111 rfl rfl ?_
            first | (exact Tk.yes (Sz.tr (Sz.tr (Sz.w (by decide)) (Sz.w (by decide))) (Sz.w (by decide))) (by unfold oD tkD; rw [if_neg e0, if_neg e1, if_neg e2, if_pos e3]; rfl) hX1; done) | (exact Tk.no (Sz.tr (Sz.tr (Sz.w (by decide)) (Sz.w (by decide))) (Sz.w (by decide))) (Sm.tr (Sm.tr (Sm.w (by omega) (by omega)) (Sm.w (by omega) (by omega))) (Sm.w (by omega) (by omega))) hX.1.1 hX.1.2.1 (by unfold oD tkD; rw [if_neg e0, if_neg e1, if_neg e2, if_neg e3]; rfl); done)
          · have e31 : 1 ≤ f := by rcases Nat.lt_or_ge f 1 with q | q; exact absurd (nI_lt q (by omega)) h98; exact q
            refine wp_iload_n (pc := 101) dX3_takesDog_101 rfl ?_
            refine wp_ic (pc := 102) (x := nI 3) dX3_takesDog_102 ic_3 ?_
            refine wp_icmp_gt (pc := 103) 110 dX3_takesDog_103 (by decide) (fun h103 => ?_) (fun h103 => ?_)
            · have e3 : ¬ (1 ≤ f ∧ f ≤ 3) := fun q => nI_nlt q.2 (by omega) h103
              refine wp_ic (pc := 110) (x := nI 0) dX3_takesDog_110 ic_0 ?_
              refine wf_zret (pc := 111) (false) dX3_takesDog_111 rfl rfl ?_
              first | (exact Tk.yes (Sz.tr (Sz.tr (Sz.w (by decide)) (Sz.w (by decide))) (Sz.w (by decide))) (by unfold oD tkD; rw [if_neg e0, if_neg e1, if_neg e2, if_pos e3]; rfl) hX1; done) | (exact Tk.no (Sz.tr (Sz.tr (Sz.w (by decide)) (Sz.w (by decide))) (Sz.w (by decide))) (Sm.tr (Sm.tr (Sm.w (by omega) (by omega)) (Sm.w (by omega) (by omega))) (Sm.w (by omega) (by omega))) hX.1.1 hX.1.2.1 (by unfold oD tkD; rw [if_neg e0, if_neg e1, if_neg e2, if_neg e3]; rfl); done)
            · have e3 : 1 ≤ f ∧ f ≤ 3 := ⟨e31, by rcases Nat.lt_or_ge 3 f with q | q; exact absurd (nI_lt q (by omega)) h103; exact q⟩
              refine wp_ic (pc := 106) (x := nI 1) dX3_takesDog_106 ic_1 ?_
              refine wp_goto (pc := 107) 111 dX3_takesDog_107 (by decide) ?_
              refine wf_zret (pc := 111) (true) dX3_takesDog_111 rfl rfl ?_
              first | (exact Tk.yes (Sz.tr (Sz.tr (Sz.w (by decide)) (Sz.w (by decide))) (Sz.w (by decide))) (by unfold oD tkD; rw [if_neg e0, if_neg e1, if_neg e2, if_pos e3]; rfl) hX1; done) | (exact Tk.no (Sz.tr (Sz.tr (Sz.w (by decide)) (Sz.w (by decide))) (Sz.w (by decide))) (Sm.tr (Sm.tr (Sm.w (by omega) (by omega)) (Sm.w (by omega) (by omega))) (Sm.w (by omega) (by omega))) hX.1.1 hX.1.2.1 (by unfold oD tkD; rw [if_neg e0, if_neg e1, if_neg e2, if_neg e3]; rfl); done)
        · have e2 : i = 2 := (nI_eq (by omega) (by decide)).mp h47
          refine wp_aload_n (pc := 50) dX3_takesDog_50 rfl ?_
          refine wf_getR (pc := 51) dX3_takesDog_51 fl_X3_12 lk_2 (hR 2 0 3 rfl) ?_
          refine wf_getR (pc := 54) dX3_takesDog_54 fl_X3_97 IL_3.1 (hR 3 5 5 rfl) ?_
          refine wp_iload_n (pc := 57) dX3_takesDog_57 rfl ?_
          refine wp_iload_n (pc := 58) dX3_takesDog_58 rfl ?_
          refine wf_iast (pc := 59) (j := (lD Λ)) dX3_takesDog_59 IL_3.2.2.1 rfl (by omega) ?_
          have hX1 := hX.ra (lD Λ) (nI f)
          refine wp_ic (pc := 60) (x := nI 1) dX3_takesDog_60 ic_1 ?_
          refine wf_zret (pc := 61) (true) dX3_takesDog_61 rfl rfl ?_
          exact Tk.yes (Sz.w (by decide)) (by unfold oD tkD; rw [if_neg e0, if_neg e1, if_pos e2]; rfl) hX1
      · have e1 : i = 1 := (nI_eq (by omega) (by decide)).mp h24
        refine wp_aload_n (pc := 27) dX3_takesDog_27 rfl ?_
        refine wf_getR (pc := 28) dX3_takesDog_28 fl_X3_21 lk_2 (hR 2 1 8 rfl) ?_
        refine wf_getR (pc := 31) dX3_takesDog_31 fl_X3_94 IT_8.1 (hR 8 2 9 rfl) ?_
        refine wp_iload_n (pc := 34) dX3_takesDog_34 rfl ?_
        refine wp_iload_n (pc := 35) dX3_takesDog_35 rfl ?_
        refine wf_iast (pc := 36) (j := (lD Λ)) dX3_takesDog_36 IT_8.2.1 rfl (by omega) ?_
        have hX1 := hX.pd hD4 (nI f)
        refine wp_iload_n (pc := 37) dX3_takesDog_37 rfl ?_
        refine wf_callSi (pc := 38) dX3_takesDog_38 cl_X3_91 c_isStreet rfl rfl (Nat.le_of_ble_eq_true rfl) (by decide) ⟨Nat.le_refl _, Nat.le_refl _⟩ (fun r38 M38 q38 => ?_)
        rw [q38.1, q38.2]
        refine wf_zret (pc := 41) (_) dX3_takesDog_41 rfl rfl ?_
        have hin : inD (nI f) 5 = decide (f < 5) := by rw [← fgI_n hf10]; exact inD_fg hf (by decide)
        rw [hin]
        by_cases e5 : f < 5
        · rw [decide_eq_true e5]; exact Tk.yes (Sz.w (by decide)) (by unfold oD tkD; rw [if_neg e0, if_pos e1, if_pos e5]; rfl) hX1
        · rw [decide_eq_false e5]; exact Tk.no (Sz.w (by decide)) (Sm.w (by omega) (by omega)) hX.1.1 hX.1.2.1 (by unfold oD tkD; rw [if_neg e0, if_pos e1, if_neg e5]; rfl)
    · have e0 : f = 10 ∨ 4 ≤ lD Λ := Or.inl ((fgI_neg hf).mp (Int32.not_le.mp h14))
      refine wp_ic (pc := 17) (x := nI 0) dX3_takesDog_17 ic_0 ?_
      refine wf_zret (pc := 18) (false) dX3_takesDog_18 rfl rfl ?_
      exact Tk.no Sz.rf Sm.rf hX.1.1 hX.1.2.1 (by unfold oD tkD; rw [if_pos e0]; rfl)
theorem c_takesMan {l : Launch} {K : CtxT} {M : Mm} {p i q t : Nat} {Λ : Lw} {P : Pg} (hR : RS M) (hX : XR M p i q Λ P) (hL : OkN Λ) (ht : t ≤ 255) (hi : 1 ≤ i ∧ i ≤ 6) : Ci l K 3 mX3_takesMan [.ref (K.1 + 2), .int (nI t)] M (Tk M p i (oD q (tkM i t Λ P))) := by
  refine ci_of (L := [some (.ref (K.1 + 2)), some (.int (nI t)), none, none, none]) (by decide +kernel) (Nat.le_of_ble_eq_true rfl) rfl rfl (fun E => ?_)
  have hD5 : lD Λ ≤ 5 := by have := hL.1; omega
  have hD := hL.1
  have hM := hL.2.1
  have hf := fgN_le t
  refine wp_aload_n (pc := 0) dX3_takesMan_0 rfl ?_
  refine wf_getR (pc := 1) dX3_takesMan_1 fl_X3_12 lk_2 (hR 2 0 3 rfl) ?_
  refine wf_getI (pc := 4) dX3_takesMan_4 fl_X3_71 IL_3.1 ?_
  rw [hX.2.1.2.1]
  refine wp_istore_n (pc := 7) (L' := [_, _, _, _, _]) dX3_takesMan_7 (Nat.le_of_ble_eq_true rfl) rfl rfl ?_
  refine wp_iload_n (pc := 8) dX3_takesMan_8 rfl ?_
  refine wp_ic (pc := 9) (x := nI 5) dX3_takesMan_9 ic_5 ?_
  refine wp_icmp_lt (pc := 10) 15 dX3_takesMan_10 (by decide) (fun h10 => ?_) (fun h10 => ?_)
  · have e0 : ¬ 5 ≤ lM Λ := fun q => nI_nlt q (by omega) h10
    refine wp_iload_n (pc := 15) dX3_takesMan_15 rfl ?_
    refine wf_callSi (pc := 16) dX3_takesMan_16 cl_X3_48 (c_figure ht) rfl rfl (Nat.le_of_ble_eq_true rfl) (by decide) ⟨Nat.le_refl _, Nat.le_refl _⟩ (fun r16 M16 q16 => ?_)
    rw [q16.1, q16.2]
    refine wp_istore_n (pc := 19) (L' := [_, _, _, _, _]) dX3_takesMan_19 (Nat.le_of_ble_eq_true rfl) rfl rfl ?_
    refine wp_aload_n (pc := 20) dX3_takesMan_20 rfl ?_
    refine wf_getI (pc := 21) dX3_takesMan_21 fl_X3_29 lk_2 ?_
    rw [hX.1.2.1]
    refine wp_ic (pc := 24) (x := nI 1) dX3_takesMan_24 ic_1 ?_
    refine wp_icmp_ne (pc := 25) 76 dX3_takesMan_25 (by decide) (fun h25 => ?_) (fun h25 => ?_)
    · have e1 : ¬ i = 1 := fun q => h25 (by rw [q])
      refine wp_aload_n (pc := 76) dX3_takesMan_76 rfl ?_
      refine wf_getI (pc := 77) dX3_takesMan_77 fl_X3_29 lk_2 ?_
      rw [hX.1.2.1]
      refine wp_ic (pc := 80) (x := nI 2) dX3_takesMan_80 ic_2 ?_
      refine wp_icmp_ne (pc := 81) 144 dX3_takesMan_81 (by decide) (fun h81 => ?_) (fun h81 => ?_)
      · have e2 : ¬ i = 2 := fun q => h81 (by rw [q])
        refine wp_aload_n (pc := 144) dX3_takesMan_144 rfl ?_
        refine wf_getR (pc := 145) dX3_takesMan_145 fl_X3_12 lk_2 (hR 2 0 3 rfl) ?_
        refine wp_dup (pc := 148) dX3_takesMan_148 rfl ?_
        refine wf_getI (pc := 149) dX3_takesMan_149 fl_X3_71 IL_3.1 ?_
        rw [hX.2.1.2.1]
        refine wp_ic (pc := 152) (x := nI 1) dX3_takesMan_152 ic_1 ?_
        refine wp_iadd (pc := 153) dX3_takesMan_153 ?_
        refine wp_top (nI (lM Λ + 1)) (nI_1 _) ?_
        refine wf_putI (pc := 154) dX3_takesMan_154 fl_X3_71 IL_3.1 ?_
        refine wp_aload_n (pc := 157) dX3_takesMan_157 rfl ?_
        refine wf_getR (pc := 158) dX3_takesMan_158 fl_X3_12 lk_2 (hR 2 0 3 rfl) ?_
        refine wp_dup (pc := 161) dX3_takesMan_161 rfl ?_
        refine wf_getI (pc := 162) dX3_takesMan_162 fl_X3_118 IL_3.1 ?_
        refine wp_iload_n (pc := 165) dX3_takesMan_165 rfl ?_
        refine wp_ic (pc := 166) (x := nI 1) dX3_takesMan_166 ic_1 ?_
        refine wp_icmp_ne (pc := 167) 176 dX3_takesMan_167 (by decide) (fun h167 => ?_) (fun h167 => ?_)
        · have hb : nI 0 = if fgN t = 1 then bit (lM Λ) else nI 0 := by rw [if_neg (fun q => h167 ((fgI_eq hf (by decide)).mpr q))]
          refine wp_ic (pc := 176) (x := nI 0) dX3_takesMan_176 ic_0 ?_
          refine wp_ior (pc := 177) dX3_takesMan_177 ?_
          refine wf_putI (pc := 178) dX3_takesMan_178 fl_X3_118 IL_3.1 ?_
          refine wp_iload_n (pc := 181) dX3_takesMan_181 rfl ?_
          refine wp_if_eq (pc := 182) 190 dX3_takesMan_182 (by decide) (fun h182 => ?_) (fun h182 => ?_)
          · have e6 : fgN t ≤ 1 := by have := (fgI_eq (c := 0) hf (by decide)).mp h182; omega
            refine wp_ic (pc := 190) (x := nI 1) dX3_takesMan_190 ic_1 ?_
            refine wp_goto (pc := 191) 195 dX3_takesMan_191 (by decide) ?_
            refine wf_zret (pc := 195) (true) dX3_takesMan_195 rfl rfl ?_
            first | (exact Tk.yes (Sz.tr (Sz.w (by decide)) (Sz.w (by decide))) (by unfold oD tkM; rw [if_neg e0, if_neg e1, if_neg e2, if_pos e6]; rfl) (hX.mn hL e6 (by omega) hb); done) | (exact Tk.no (Sz.tr (Sz.w (by decide)) (Sz.w (by decide))) (Sm.tr (Sm.w (by omega) (by omega)) (Sm.w (by omega) (by omega))) hX.1.1 hX.1.2.1 (by unfold oD tkM; rw [if_neg e0, if_neg e1, if_neg e2, if_neg e6]; rfl); done)
          · have n0 : ¬ fgN t = 0 := fun q => h182 ((fgI_eq (c := 0) hf (by decide)).mpr q)
            refine wp_iload_n (pc := 185) dX3_takesMan_185 rfl ?_
            refine wp_ic (pc := 186) (x := nI 1) dX3_takesMan_186 ic_1 ?_
            refine wp_icmp_ne (pc := 187) 194 dX3_takesMan_187 (by decide) (fun h187 => ?_) (fun h187 => ?_)
            · have e6 : ¬ fgN t ≤ 1 := by have : ¬ fgN t = 1 := fun q => h187 ((fgI_eq hf (by decide)).mpr q); omega
              refine wp_ic (pc := 194) (x := nI 0) dX3_takesMan_194 ic_0 ?_
              refine wf_zret (pc := 195) (false) dX3_takesMan_195 rfl rfl ?_
              first | (exact Tk.yes (Sz.tr (Sz.w (by decide)) (Sz.w (by decide))) (by unfold oD tkM; rw [if_neg e0, if_neg e1, if_neg e2, if_pos e6]; rfl) (hX.mn hL e6 (by omega) hb); done) | (exact Tk.no (Sz.tr (Sz.w (by decide)) (Sz.w (by decide))) (Sm.tr (Sm.w (by omega) (by omega)) (Sm.w (by omega) (by omega))) hX.1.1 hX.1.2.1 (by unfold oD tkM; rw [if_neg e0, if_neg e1, if_neg e2, if_neg e6]; rfl); done)
            · have e6 : fgN t ≤ 1 := by have := (fgI_eq hf (by decide)).mp h187; omega
              refine wp_ic (pc := 190) (x := nI 1) dX3_takesMan_190 ic_1 ?_
              refine wp_goto (pc := 191) 195 dX3_takesMan_191 (by decide) ?_
              refine wf_zret (pc := 195) (true) dX3_takesMan_195 rfl rfl ?_
              first | (exact Tk.yes (Sz.tr (Sz.w (by decide)) (Sz.w (by decide))) (by unfold oD tkM; rw [if_neg e0, if_neg e1, if_neg e2, if_pos e6]; rfl) (hX.mn hL e6 (by omega) hb); done) | (exact Tk.no (Sz.tr (Sz.w (by decide)) (Sz.w (by decide))) (Sm.tr (Sm.w (by omega) (by omega)) (Sm.w (by omega) (by omega))) hX.1.1 hX.1.2.1 (by unfold oD tkM; rw [if_neg e0, if_neg e1, if_neg e2, if_neg e6]; rfl); done)
        · have hb : bit (lM Λ) = if fgN t = 1 then bit (lM Λ) else nI 0 := by rw [if_pos ((fgI_eq hf (by decide)).mp h167)]
          refine wp_ic (pc := 170) (x := nI 1) dX3_takesMan_170 ic_1 ?_
          refine wp_iload_n (pc := 171) dX3_takesMan_171 rfl ?_
          refine wp_ishl (pc := 172) dX3_takesMan_172 ?_
          refine wp_goto (pc := 173) 177 dX3_takesMan_173 (by decide) ?_
          refine wp_ior (pc := 177) dX3_takesMan_177 ?_
          refine wf_putI (pc := 178) dX3_takesMan_178 fl_X3_118 IL_3.1 ?_
          refine wp_iload_n (pc := 181) dX3_takesMan_181 rfl ?_
          refine wp_if_eq (pc := 182) 190 dX3_takesMan_182 (by decide) (fun h182 => ?_) (fun h182 => ?_)
          · have e6 : fgN t ≤ 1 := by have := (fgI_eq (c := 0) hf (by decide)).mp h182; omega
            refine wp_ic (pc := 190) (x := nI 1) dX3_takesMan_190 ic_1 ?_
            refine wp_goto (pc := 191) 195 dX3_takesMan_191 (by decide) ?_
            refine wf_zret (pc := 195) (true) dX3_takesMan_195 rfl rfl ?_
            first | (exact Tk.yes (Sz.tr (Sz.w (by decide)) (Sz.w (by decide))) (by unfold oD tkM; rw [if_neg e0, if_neg e1, if_neg e2, if_pos e6]; rfl) (hX.mn hL e6 (by omega) hb); done) | (exact Tk.no (Sz.tr (Sz.w (by decide)) (Sz.w (by decide))) (Sm.tr (Sm.w (by omega) (by omega)) (Sm.w (by omega) (by omega))) hX.1.1 hX.1.2.1 (by unfold oD tkM; rw [if_neg e0, if_neg e1, if_neg e2, if_neg e6]; rfl); done)
          · have n0 : ¬ fgN t = 0 := fun q => h182 ((fgI_eq (c := 0) hf (by decide)).mpr q)
            refine wp_iload_n (pc := 185) dX3_takesMan_185 rfl ?_
            refine wp_ic (pc := 186) (x := nI 1) dX3_takesMan_186 ic_1 ?_
            refine wp_icmp_ne (pc := 187) 194 dX3_takesMan_187 (by decide) (fun h187 => ?_) (fun h187 => ?_)
            · have e6 : ¬ fgN t ≤ 1 := by have : ¬ fgN t = 1 := fun q => h187 ((fgI_eq hf (by decide)).mpr q); omega
              refine wp_ic (pc := 194) (x := nI 0) dX3_takesMan_194 ic_0 ?_
              refine wf_zret (pc := 195) (false) dX3_takesMan_195 rfl rfl ?_
              first | (exact Tk.yes (Sz.tr (Sz.w (by decide)) (Sz.w (by decide))) (by unfold oD tkM; rw [if_neg e0, if_neg e1, if_neg e2, if_pos e6]; rfl) (hX.mn hL e6 (by omega) hb); done) | (exact Tk.no (Sz.tr (Sz.w (by decide)) (Sz.w (by decide))) (Sm.tr (Sm.w (by omega) (by omega)) (Sm.w (by omega) (by omega))) hX.1.1 hX.1.2.1 (by unfold oD tkM; rw [if_neg e0, if_neg e1, if_neg e2, if_neg e6]; rfl); done)
            · have e6 : fgN t ≤ 1 := by have := (fgI_eq hf (by decide)).mp h187; omega
              refine wp_ic (pc := 190) (x := nI 1) dX3_takesMan_190 ic_1 ?_
              refine wp_goto (pc := 191) 195 dX3_takesMan_191 (by decide) ?_
              refine wf_zret (pc := 195) (true) dX3_takesMan_195 rfl rfl ?_
              first | (exact Tk.yes (Sz.tr (Sz.w (by decide)) (Sz.w (by decide))) (by unfold oD tkM; rw [if_neg e0, if_neg e1, if_neg e2, if_pos e6]; rfl) (hX.mn hL e6 (by omega) hb); done) | (exact Tk.no (Sz.tr (Sz.w (by decide)) (Sz.w (by decide))) (Sm.tr (Sm.w (by omega) (by omega)) (Sm.w (by omega) (by omega))) hX.1.1 hX.1.2.1 (by unfold oD tkM; rw [if_neg e0, if_neg e1, if_neg e2, if_neg e6]; rfl); done)
      · have e2 : i = 2 := (nI_eq (by omega) (by decide)).mp h81
        refine wp_aload_n (pc := 84) dX3_takesMan_84 rfl ?_
        refine wf_getR (pc := 85) dX3_takesMan_85 fl_X3_21 lk_2 (hR 2 1 8 rfl) ?_
        refine wf_getR (pc := 88) dX3_takesMan_88 fl_X3_105 IT_8.1 (hR 8 4 11 rfl) ?_
        refine wp_iload_n (pc := 91) dX3_takesMan_91 rfl ?_
        refine wf_iald (pc := 92) (j := (lM Λ)) dX3_takesMan_92 IT_8.2.2.2.1 rfl (by omega) ?_
        rw [show M.1 11 (lM Λ) = P (8 + lM Λ) from (hX.2.2.2.2.2.2.2 (lM Λ) (show lM Λ < 5 by omega)).1]
        refine wp_istore (pc := 93) (L' := [_, _, _, _, _]) dX3_takesMan_93 (Nat.le_of_ble_eq_true rfl) rfl rfl ?_
        refine wp_aload_n (pc := 95) dX3_takesMan_95 rfl ?_
        refine wf_getR (pc := 96) dX3_takesMan_96 fl_X3_21 lk_2 (hR 2 1 8 rfl) ?_
        refine wf_getR (pc := 99) dX3_takesMan_99 fl_X3_115 IT_8.1 (hR 8 5 12 rfl) ?_
        refine wp_iload_n (pc := 102) dX3_takesMan_102 rfl ?_
        refine wp_iload_n (pc := 103) dX3_takesMan_103 rfl ?_
        refine wf_iast (pc := 104) (j := (lM Λ)) dX3_takesMan_104 IT_8.2.2.2.2.1 rfl (by omega) ?_
        have hX1 := hX.pm (show lM Λ < 5 by omega) (fgI (fgN t))
        have hR1 : RS (wI M 12 (lM Λ) (fgI (fgN t))) := hR
        refine wp_aload_n (pc := 105) dX3_takesMan_105 rfl ?_
        refine wf_getR (pc := 106) dX3_takesMan_106 fl_X3_12 lk_2 (hR 2 0 3 rfl) ?_
        refine wp_iload (pc := 109) dX3_takesMan_109 rfl ?_
        refine wf_callVi (pc := 111) dX3_takesMan_111 cl_X3_108 (c_hasDog (Λ := Λ) IL_3 hR1 hL (hX1.XL hL)) IL_3.1 rfl rfl rfl rfl (Nat.le_of_ble_eq_true rfl) (by decide) ⟨Nat.le_refl _, Nat.le_refl _⟩ (fun r111 M111 q111 => ?_)
        rw [q111.1, q111.2]
        refine wp_if_eq (pc := 114) 139 dX3_takesMan_114 (by decide) (fun h114 => ?_) (fun h114 => ?_)
        · have h114 := b2i_0 h114
          have hc : ¬ inD (P (8 + lM Λ)) (lD Λ) = true := by rw [h114]; decide
          refine wp_iload_n (pc := 139) dX3_takesMan_139 rfl ?_
          refine wf_callSi (pc := 140) dX3_takesMan_140 cl_X3_91 c_isStreet rfl rfl (Nat.le_of_ble_eq_true rfl) (by decide) ⟨Nat.le_refl _, Nat.le_refl _⟩ (fun r140 M140 q140 => ?_)
          rw [q140.1, q140.2]
          refine wf_zret (pc := 143) (_) dX3_takesMan_143 rfl rfl ?_
          first | (exact Tk.yes (Sz.w (by decide)) (by unfold oD tkM; rw [if_neg e0, if_neg e1, if_pos e2, if_pos e4]; rfl) hX1; done) | (exact Tk.no (Sz.w (by decide)) (Sm.w (by omega) (by omega)) hX.1.1 hX.1.2.1 (by unfold oD tkM; rw [if_neg e0, if_neg e1, if_pos e2, if_neg e4]; rfl); done) | (rw [inD_fg hf (by decide)]; exact dite (fgN t < 5) (fun e5 => by rw [decide_eq_true e5]; exact Tk.yes (Sz.w (by decide)) (by unfold oD tkM; rw [if_neg e0, if_neg e1, if_pos e2, if_pos (show (if inD (P (8 + lM Λ)) (lD Λ) = true then fgI (fgN t) = P (P (8 + lM Λ)).toNatClampNeg else fgN t < 5) by rw [if_neg hc]; exact e5)]; rfl) hX1) (fun e5 => by rw [decide_eq_false e5]; exact Tk.no (Sz.w (by decide)) (Sm.w (by omega) (by omega)) hX.1.1 hX.1.2.1 (by unfold oD tkM; rw [if_neg e0, if_neg e1, if_pos e2, if_neg (show ¬ (if inD (P (8 + lM Λ)) (lD Λ) = true then fgI (fgN t) = P (P (8 + lM Λ)).toNatClampNeg else fgN t < 5) by rw [if_neg hc]; exact e5)]; rfl)))
        · have h114 := b2i_1 h114
          have hc : inD (P (8 + lM Λ)) (lD Λ) = true := h114
          obtain ⟨d, hd, ed⟩ := inD_of hc (by omega)
          have edc : (P (8 + lM Λ)).toNatClampNeg = d := by rw [ed, nI_cl (by omega)]
          refine wp_iload_n (pc := 117) dX3_takesMan_117 rfl ?_
          refine wp_aload_n (pc := 118) dX3_takesMan_118 rfl ?_
          refine wf_getR (pc := 119) dX3_takesMan_119 fl_X3_21 lk_2 (hR 2 1 8 rfl) ?_
          refine wf_getR (pc := 122) dX3_takesMan_122 fl_X3_94 IT_8.1 (hR 8 2 9 rfl) ?_
          refine wp_iload (pc := 125) dX3_takesMan_125 rfl ?_
          refine wf_iald (pc := 127) (j := d) dX3_takesMan_127 IT_8.2.1 ed (by omega) ?_
          rw [show (wI M 12 (lM Λ) (fgI (fgN t))).1 9 d = P d from (hX.2.2.2.2.2.2.1 d (show d < 4 by omega)).1]
          refine wp_icmp_ne (pc := 128) 135 dX3_takesMan_128 (by decide) (fun h128 => ?_) (fun h128 => ?_)
          · have e4 : ¬ (if inD (P (8 + lM Λ)) (lD Λ) = true then fgI (fgN t) = P (P (8 + lM Λ)).toNatClampNeg else fgN t < 5) := by rw [if_pos hc, edc]; exact h128
            refine wp_ic (pc := 135) (x := nI 0) dX3_takesMan_135 ic_0 ?_
            refine wp_goto (pc := 136) 143 dX3_takesMan_136 (by decide) ?_
            refine wf_zret (pc := 143) (false) dX3_takesMan_143 rfl rfl ?_
            first | (exact Tk.yes (Sz.w (by decide)) (by unfold oD tkM; rw [if_neg e0, if_neg e1, if_pos e2, if_pos e4]; rfl) hX1; done) | (exact Tk.no (Sz.w (by decide)) (Sm.w (by omega) (by omega)) hX.1.1 hX.1.2.1 (by unfold oD tkM; rw [if_neg e0, if_neg e1, if_pos e2, if_neg e4]; rfl); done) | (rw [inD_fg hf (by decide)]; exact dite (fgN t < 5) (fun e5 => by rw [decide_eq_true e5]; exact Tk.yes (Sz.w (by decide)) (by unfold oD tkM; rw [if_neg e0, if_neg e1, if_pos e2, if_pos (show (if inD (P (8 + lM Λ)) (lD Λ) = true then fgI (fgN t) = P (P (8 + lM Λ)).toNatClampNeg else fgN t < 5) by rw [if_neg hc]; exact e5)]; rfl) hX1) (fun e5 => by rw [decide_eq_false e5]; exact Tk.no (Sz.w (by decide)) (Sm.w (by omega) (by omega)) hX.1.1 hX.1.2.1 (by unfold oD tkM; rw [if_neg e0, if_neg e1, if_pos e2, if_neg (show ¬ (if inD (P (8 + lM Λ)) (lD Λ) = true then fgI (fgN t) = P (P (8 + lM Λ)).toNatClampNeg else fgN t < 5) by rw [if_neg hc]; exact e5)]; rfl)))
          · have e4 : (if inD (P (8 + lM Λ)) (lD Λ) = true then fgI (fgN t) = P (P (8 + lM Λ)).toNatClampNeg else fgN t < 5) := by rw [if_pos hc, edc]; exact h128
            refine wp_ic (pc := 131) (x := nI 1) dX3_takesMan_131 ic_1 ?_
            refine wp_goto (pc := 132) 143 dX3_takesMan_132 (by decide) ?_
            refine wf_zret (pc := 143) (true) dX3_takesMan_143 rfl rfl ?_
            first | (exact Tk.yes (Sz.w (by decide)) (by unfold oD tkM; rw [if_neg e0, if_neg e1, if_pos e2, if_pos e4]; rfl) hX1; done) | (exact Tk.no (Sz.w (by decide)) (Sm.w (by omega) (by omega)) hX.1.1 hX.1.2.1 (by unfold oD tkM; rw [if_neg e0, if_neg e1, if_pos e2, if_neg e4]; rfl); done) | (rw [inD_fg hf (by decide)]; exact dite (fgN t < 5) (fun e5 => by rw [decide_eq_true e5]; exact Tk.yes (Sz.w (by decide)) (by unfold oD tkM; rw [if_neg e0, if_neg e1, if_pos e2, if_pos (show (if inD (P (8 + lM Λ)) (lD Λ) = true then fgI (fgN t) = P (P (8 + lM Λ)).toNatClampNeg else fgN t < 5) by rw [if_neg hc]; exact e5)]; rfl) hX1) (fun e5 => by rw [decide_eq_false e5]; exact Tk.no (Sz.w (by decide)) (Sm.w (by omega) (by omega)) hX.1.1 hX.1.2.1 (by unfold oD tkM; rw [if_neg e0, if_neg e1, if_pos e2, if_neg (show ¬ (if inD (P (8 + lM Λ)) (lD Λ) = true then fgI (fgN t) = P (P (8 + lM Λ)).toNatClampNeg else fgN t < 5) by rw [if_neg hc]; exact e5)]; rfl)))
    · have e1 : i = 1 := (nI_eq (by omega) (by decide)).mp h25
      refine wp_aload_n (pc := 28) dX3_takesMan_28 rfl ?_
      refine wf_getR (pc := 29) dX3_takesMan_29 fl_X3_21 lk_2 (hR 2 1 8 rfl) ?_
      refine wf_getR (pc := 32) dX3_takesMan_32 fl_X3_105 IT_8.1 (hR 8 4 11 rfl) ?_
      refine wp_iload_n (pc := 35) dX3_takesMan_35 rfl ?_
      refine wp_iload_n (pc := 36) dX3_takesMan_36 rfl ?_
      refine wf_iast (pc := 37) (j := (lM Λ)) dX3_takesMan_37 IT_8.2.2.2.1 rfl (by omega) ?_
      have hX1 := hX.pk (show lM Λ < 5 by omega) (fgI (fgN t))
      have hR1 : RS (wI M 11 (lM Λ) (fgI (fgN t))) := hR
      refine wp_iload_n (pc := 38) dX3_takesMan_38 rfl ?_
      refine wp_bipush (pc := 39) (x := nI 45) dX3_takesMan_39 bp_45 ?_
      refine wp_icmp_eq (pc := 41) 70 dX3_takesMan_41 (by decide) (fun h41 => ?_) (fun h41 => ?_)
      · have e3 : t = 45 ∨ (fgN t < lD Λ ∧ nI (pop5 (kepN P (fgN t) (lM Λ))) < lRm Λ (fgN t)) := Or.inl ((nI_eq (by omega) (by decide)).mp h41)
        refine wp_ic (pc := 70) (x := nI 1) dX3_takesMan_70 ic_1 ?_
        refine wp_goto (pc := 71) 75 dX3_takesMan_71 (by decide) ?_
        refine wf_zret (pc := 75) (true) dX3_takesMan_75 rfl rfl ?_
        first | (exact Tk.yes (Sz.w (by decide)) (by unfold oD tkM; rw [if_neg e0, if_pos e1, if_pos e3]; rfl) hX1; done) | (exact Tk.no (Sz.w (by decide)) (Sm.w (by omega) (by omega)) hX.1.1 hX.1.2.1 (by unfold oD tkM; rw [if_neg e0, if_pos e1, if_neg e3]; rfl); done)
      · have n45 : ¬ t = 45 := fun q => h41 (by rw [q])
        refine wp_aload_n (pc := 44) dX3_takesMan_44 rfl ?_
        refine wf_getR (pc := 45) dX3_takesMan_45 fl_X3_12 lk_2 (hR 2 0 3 rfl) ?_
        refine wp_iload_n (pc := 48) dX3_takesMan_48 rfl ?_
        refine wf_callVi (pc := 49) dX3_takesMan_49 cl_X3_108 (c_hasDog (Λ := Λ) IL_3 hR1 hL (hX1.XL hL)) IL_3.1 rfl rfl rfl rfl (Nat.le_of_ble_eq_true rfl) (by decide) ⟨Nat.le_refl _, Nat.le_refl _⟩ (fun r49 M49 q49 => ?_)
        rw [q49.1, q49.2]
        refine wp_if_eq (pc := 52) 74 dX3_takesMan_52 (by decide) (fun h52 => ?_) (fun h52 => ?_)
        · have h52 := b2i_0 h52
          rw [inD_fg hf hD5] at h52
          have e3 : ¬ (t = 45 ∨ (fgN t < lD Λ ∧ nI (pop5 (kepN P (fgN t) (lM Λ))) < lRm Λ (fgN t))) := fun q => q.elim n45 (fun r => of_decide_eq_false h52 r.1)
          refine wp_ic (pc := 74) (x := nI 0) dX3_takesMan_74 ic_0 ?_
          refine wf_zret (pc := 75) (false) dX3_takesMan_75 rfl rfl ?_
          first | (exact Tk.yes (Sz.w (by decide)) (by unfold oD tkM; rw [if_neg e0, if_pos e1, if_pos e3]; rfl) hX1; done) | (exact Tk.no (Sz.w (by decide)) (Sm.w (by omega) (by omega)) hX.1.1 hX.1.2.1 (by unfold oD tkM; rw [if_neg e0, if_pos e1, if_neg e3]; rfl); done)
        · have h52 := b2i_1 h52
          rw [inD_fg hf hD5] at h52
          have hfD : fgN t < lD Λ := of_decide_eq_true h52
          refine wp_aload_n (pc := 55) dX3_takesMan_55 rfl ?_
          refine wf_getR (pc := 56) dX3_takesMan_56 fl_X3_21 lk_2 (hR 2 1 8 rfl) ?_
          refine wp_aload_n (pc := 59) dX3_takesMan_59 rfl ?_
          refine wf_getR (pc := 60) dX3_takesMan_60 fl_X3_12 lk_2 (hR 2 0 3 rfl) ?_
          refine wp_iload_n (pc := 63) dX3_takesMan_63 rfl ?_
          refine wp_top (nI (fgN t)) (fgI_n (by omega)) ?_
          refine wf_callVi (pc := 64) dX3_takesMan_64 cl_X3_111 (c_hasRoom (Λ := Λ) IT_8 IL_3 hR1 hL (hX1.XL hL) (hX1.XT hL) hfD) IT_8.1 rfl rfl rfl rfl (Nat.le_of_ble_eq_true rfl) (by decide) ⟨Nat.le_refl _, Nat.le_refl _⟩ (fun r64 M64 q64 => ?_)
          rw [q64.1, q64.2]
          refine wp_if_eq (pc := 67) 74 dX3_takesMan_67 (by decide) (fun h67 => ?_) (fun h67 => ?_)
          · have h67 := b2i_0 h67
            have e3 : ¬ (t = 45 ∨ (fgN t < lD Λ ∧ nI (pop5 (kepN P (fgN t) (lM Λ))) < lRm Λ (fgN t))) := fun q => q.elim n45 (fun r => by have := of_decide_eq_false h67; rw [kepN_upd P _ _ _ _ (Nat.le_refl _)] at this; exact this r.2)
            refine wp_ic (pc := 74) (x := nI 0) dX3_takesMan_74 ic_0 ?_
            refine wf_zret (pc := 75) (false) dX3_takesMan_75 rfl rfl ?_
            first | (exact Tk.yes (Sz.w (by decide)) (by unfold oD tkM; rw [if_neg e0, if_pos e1, if_pos e3]; rfl) hX1; done) | (exact Tk.no (Sz.w (by decide)) (Sm.w (by omega) (by omega)) hX.1.1 hX.1.2.1 (by unfold oD tkM; rw [if_neg e0, if_pos e1, if_neg e3]; rfl); done)
          · have h67 := b2i_1 h67
            have e3 : t = 45 ∨ (fgN t < lD Λ ∧ nI (pop5 (kepN P (fgN t) (lM Λ))) < lRm Λ (fgN t)) := Or.inr ⟨hfD, by have := of_decide_eq_true h67; rw [kepN_upd P _ _ _ _ (Nat.le_refl _)] at this; exact this⟩
            refine wp_ic (pc := 70) (x := nI 1) dX3_takesMan_70 ic_1 ?_
            refine wp_goto (pc := 71) 75 dX3_takesMan_71 (by decide) ?_
            refine wf_zret (pc := 75) (true) dX3_takesMan_75 rfl rfl ?_
            first | (exact Tk.yes (Sz.w (by decide)) (by unfold oD tkM; rw [if_neg e0, if_pos e1, if_pos e3]; rfl) hX1; done) | (exact Tk.no (Sz.w (by decide)) (Sm.w (by omega) (by omega)) hX.1.1 hX.1.2.1 (by unfold oD tkM; rw [if_neg e0, if_pos e1, if_neg e3]; rfl); done)
  · have e0 : 5 ≤ lM Λ := by rcases Nat.lt_or_ge (lM Λ) 5 with q | q; exact absurd (nI_lt q (by omega)) h10; exact q
    refine wp_ic (pc := 13) (x := nI 0) dX3_takesMan_13 ic_0 ?_
    refine wf_zret (pc := 14) (false) dX3_takesMan_14 rfl rfl ?_
    exact Tk.no Sz.rf Sm.rf hX.1.1 hX.1.2.1 (by unfold oD tkM; rw [if_pos e0]; rfl)
