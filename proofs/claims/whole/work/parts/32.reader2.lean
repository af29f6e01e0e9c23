/-- what a step of a part leaves: refused, or taken into a state -/
def Tk (M : Mm) (p i : Nat) (o : Option (Nat × Lw × Pg)) (r : Int32) (M' : Mm) : Prop := Sz M M' ∧ M'.1 2 2 = nI p ∧ M'.1 2 3 = nI i ∧ ((r = b2i false ∧ o = none) ∨ ∃ c, r = b2i true ∧ o = some c ∧ XR M' p i c.1 c.2.1 c.2.2)
theorem Tk.no {M M' : Mm} {p i : Nat} {o : Option (Nat × Lw × Pg)} (s : Sz M M') (e : Sm 3 14 M M') (h2 : M.1 2 2 = nI p) (h3 : M.1 2 3 = nI i) (ho : o = none) : Tk M p i o (b2i false) M' := ⟨s, (e.2 2 (by omega) 2).trans h2, (e.2 2 (by omega) 3).trans h3, Or.inl ⟨rfl, ho⟩⟩
theorem Tk.yes {M M' : Mm} {p i q : Nat} {Λ : Lw} {P : Pg} {o : Option (Nat × Lw × Pg)} (s : Sz M M') (ho : o = some (q, Λ, P)) (h : XR M' p i q Λ P) : Tk M p i o (b2i true) M' := ⟨s, h.1.1, h.1.2.1, Or.inr ⟨(q, Λ, P), rfl, ho, h⟩⟩
def oH (q : Nat) (P : Pg) (o : Option Lw) : Option (Nat × Lw × Pg) := o.map (fun Λ => (q, Λ, P))
def oD (q : Nat) (o : Option (Lw × Pg)) : Option (Nat × Lw × Pg) := o.map (fun c => (q, c.1, c.2))
def oP (P : Pg) (o : Option (Nat × Lw)) : Option (Nat × Lw × Pg) := o.map (fun c => (c.1, c.2, P))
theorem fgI_neg {f : Nat} (hf : f ≤ 10) : fgI f < 0 ↔ f = 10 := by
  have e : ∀ f, f ≤ 10 → (fgI f < 0 ↔ f = 10) := by decide
  exact e f hf
theorem fgI_eq {f c : Nat} (hf : f ≤ 10) (hc : c < 10) : fgI f = nI c ↔ f = c := by
  have e : ∀ f, f ≤ 10 → ∀ c, c < 10 → (fgI f = nI c ↔ f = c) := by decide +kernel
  exact e f hf c hc
theorem inD_fg {f n : Nat} (hf : f ≤ 10) (hn : n ≤ 5) : inD (fgI f) n = decide (f < n) := by
  have e : ∀ f, f ≤ 10 → ∀ n, n ≤ 5 → inD (fgI f) n = decide (f < n) := by decide +kernel
  exact e f hf n hn
theorem c_takesHead {l : Launch} {K : CtxT} {M : Mm} {p i q f : Nat} {Λ : Lw} {P : Pg} (hR : RS M) (hX : XR M p i q Λ P) (hL : OkN Λ) (hf : f ≤ 10) (hi : 1 ≤ i ∧ i ≤ 6) : Ci l K 2 mX3_takesHead [.ref (K.1 + 2), .int (fgI f)] M (Tk M p i (oH q P (tkH i f Λ))) := by
  refine ci_of (L := [some (.ref (K.1 + 2)), some (.int (fgI f))]) (by decide +kernel) (Nat.le_of_ble_eq_true rfl) rfl rfl (fun E => ?_)
  refine wp_iload_n (pc := 0) dX3_takesHead_0 rfl ?_
  refine wp_if_ge (pc := 1) 6 dX3_takesHead_1 (by decide) (fun h1 => ?_) (fun h1 => ?_)
  · have e0 : ¬ f = 10 := fun q => Int32.not_lt.mpr h1 ((fgI_neg hf).mpr q)
    rw [fgI_n e0]
    have hX0 := hX
    refine wp_aload_n (pc := 6) dX3_takesHead_6 rfl ?_
    refine wf_getI (pc := 7) dX3_takesHead_7 fl_X3_29 lk_2 ?_
    rw [hX.1.2.1]
    refine wp_ic (pc := 10) (x := nI 1) dX3_takesHead_10 ic_1 ?_
    refine wp_icmp_ne (pc := 11) 43 dX3_takesHead_11 (by decide) (fun h11 => ?_) (fun h11 => ?_)
    · have e1 : ¬ i = 1 := fun q => h11 (by rw [q])
      refine wp_aload_n (pc := 43) dX3_takesHead_43 rfl ?_
      refine wf_getI (pc := 44) dX3_takesHead_44 fl_X3_29 lk_2 ?_
      rw [hX.1.2.1]
      refine wp_ic (pc := 47) (x := nI 2) dX3_takesHead_47 ic_2 ?_
      refine wp_icmp_ne (pc := 48) 82 dX3_takesHead_48 (by decide) (fun h48 => ?_) (fun h48 => ?_)
      · have e2 : ¬ i = 2 := fun q => h48 (by rw [q])
        refine wp_aload_n (pc := 82) dX3_takesHead_82 rfl ?_
        refine wf_getR (pc := 83) dX3_takesHead_83 fl_X3_12 lk_2 (hR 2 0 3 rfl) ?_
        refine wf_getR (pc := 86) dX3_takesHead_86 fl_X3_81 IL_3.1 (hR 3 4 4 rfl) ?_
        refine wp_aload_n (pc := 89) dX3_takesHead_89 rfl ?_
        refine wf_getI (pc := 90) dX3_takesHead_90 fl_X3_29 lk_2 ?_
        rw [hX.1.2.1]
        refine wp_ic (pc := 93) (x := nI 3) dX3_takesHead_93 ic_3 ?_
        refine wp_isub (pc := 94) dX3_takesHead_94 ?_
        refine wp_ic (pc := 95) (x := nI 4) dX3_takesHead_95 ic_4 ?_
        rw [pk_sub (by omega)]
        refine wf_callSi (pc := 96) dX3_takesHead_96 cl_X3_85 (c_floorMod (by omega) (by decide) (by decide)) rfl rfl (Nat.le_of_ble_eq_true rfl) (by decide) ⟨Nat.le_refl _, Nat.le_refl _⟩ (fun r96 M96 q96 => ?_)
        rw [q96.1, q96.2]
        refine wp_iload_n (pc := 99) dX3_takesHead_99 rfl ?_
        refine wf_iast (pc := 100) (j := ((i - 3) % 4)) dX3_takesHead_100 IL_3.2.1 rfl (by omega) ?_
        have hX1 := hX.ro ((i - 3) % 4) (nI f)
        refine wp_iload_n (pc := 101) dX3_takesHead_101 rfl ?_
        refine wf_callSi (pc := 102) dX3_takesHead_102 cl_X3_91 c_isStreet rfl rfl (Nat.le_of_ble_eq_true rfl) (by decide) ⟨Nat.le_refl _, Nat.le_refl _⟩ (fun r102 M102 q102 => ?_)
        rw [q102.1, q102.2]
        refine wf_zret (pc := 105) (_) dX3_takesHead_105 rfl rfl ?_
        have hin : inD (nI f) 5 = decide (f < 5) := by rw [← fgI_n e0]; exact inD_fg hf (by decide)
        rw [hin]
        by_cases e5 : f < 5
        · rw [decide_eq_true e5]; exact Tk.yes (Sz.w (by decide)) (by unfold oH tkH; rw [if_neg e0, if_neg e1, if_neg e2, if_pos e5]; rfl) hX1
        · rw [decide_eq_false e5]; exact Tk.no (Sz.w (by decide)) (Sm.w (by omega) (by omega)) hX.1.1 hX.1.2.1 (by unfold oH tkH; rw [if_neg e0, if_neg e1, if_neg e2, if_neg e5]; rfl)
      · have e2 : i = 2 := (nI_eq (by omega) (by decide)).mp h48
        refine wp_aload_n (pc := 51) dX3_takesHead_51 rfl ?_
        refine wf_getR (pc := 52) dX3_takesHead_52 fl_X3_12 lk_2 (hR 2 0 3 rfl) ?_
        refine wp_dup (pc := 55) dX3_takesHead_55 rfl ?_
        refine wf_getI (pc := 56) dX3_takesHead_56 fl_X3_78 IL_3.1 ?_
        rw [hX.2.1.2.2]
        refine wp_iload_n (pc := 59) dX3_takesHead_59 rfl ?_
        refine wp_iadd (pc := 60) dX3_takesHead_60 ?_
        refine wf_putI (pc := 61) dX3_takesHead_61 fl_X3_78 IL_3.1 ?_
        have hX1 := hX.le (lLe Λ + nI f)
        refine wp_aload_n (pc := 64) dX3_takesHead_64 rfl ?_
        refine wf_getR (pc := 65) dX3_takesHead_65 fl_X3_12 lk_2 (hR 2 0 3 rfl) ?_
        refine wf_getI (pc := 68) dX3_takesHead_68 fl_X3_78 IL_3.1 ?_
        rw [hX1.2.1.2.2]
        refine wp_bipush (pc := 71) (x := nI 12) dX3_takesHead_71 bp_12 ?_
        refine wp_icmp_gt (pc := 73) 80 dX3_takesHead_73 (by decide) (fun h73 => ?_) (fun h73 => ?_)
        · refine wp_ic (pc := 80) (x := nI 0) dX3_takesHead_80 ic_0 ?_
          refine wf_zret (pc := 81) (false) dX3_takesHead_81 rfl rfl ?_
          first | exact Tk.no (Sz.w (by decide)) (Sm.w (by omega) (by omega)) hX.1.1 hX.1.2.1 (by unfold oH tkH; rw [if_neg e0, if_neg e1, if_pos e2, if_neg h73]; rfl) | exact Tk.no (Sz.w (by decide)) (Sm.w (by omega) (by omega)) hX.1.1 hX.1.2.1 (by unfold oH tkH; rw [if_neg e0, if_neg e1, if_pos e2, if_neg (Int32.not_le.mpr h73)]; rfl) | exact Tk.yes (Sz.w (by decide)) (by unfold oH tkH; rw [if_neg e0, if_neg e1, if_pos e2, if_pos h73]; rfl) hX1 | exact Tk.yes (Sz.w (by decide)) (by unfold oH tkH; rw [if_neg e0, if_neg e1, if_pos e2, if_pos (Int32.not_lt.mp h73)]; rfl) hX1
        · refine wp_ic (pc := 76) (x := nI 1) dX3_takesHead_76 ic_1 ?_
          refine wp_goto (pc := 77) 81 dX3_takesHead_77 (by decide) ?_
          refine wf_zret (pc := 81) (true) dX3_takesHead_81 rfl rfl ?_
          first | exact Tk.no (Sz.w (by decide)) (Sm.w (by omega) (by omega)) hX.1.1 hX.1.2.1 (by unfold oH tkH; rw [if_neg e0, if_neg e1, if_pos e2, if_neg h73]; rfl) | exact Tk.no (Sz.w (by decide)) (Sm.w (by omega) (by omega)) hX.1.1 hX.1.2.1 (by unfold oH tkH; rw [if_neg e0, if_neg e1, if_pos e2, if_neg (Int32.not_le.mpr h73)]; rfl) | exact Tk.yes (Sz.w (by decide)) (by unfold oH tkH; rw [if_neg e0, if_neg e1, if_pos e2, if_pos h73]; rfl) hX1 | exact Tk.yes (Sz.w (by decide)) (by unfold oH tkH; rw [if_neg e0, if_neg e1, if_pos e2, if_pos (Int32.not_lt.mp h73)]; rfl) hX1
    · have e1 : i = 1 := (nI_eq (by omega) (by decide)).mp h11
      refine wp_aload_n (pc := 14) dX3_takesHead_14 rfl ?_
      refine wf_getR (pc := 15) dX3_takesHead_15 fl_X3_12 lk_2 (hR 2 0 3 rfl) ?_
      refine wp_bipush (pc := 18) (x := nI 10) dX3_takesHead_18 bp_10 ?_
      refine wp_iload_n (pc := 20) dX3_takesHead_20 rfl ?_
      refine wp_imul (pc := 21) dX3_takesHead_21 ?_
      rw [show nI 10 * nI f = nI (10 * f) from pk_mul _ _]
      refine wf_putI (pc := 22) dX3_takesHead_22 fl_X3_78 IL_3.1 ?_
      have hX1 := hX.le (nI (10 * f))
      refine wp_aload_n (pc := 25) dX3_takesHead_25 rfl ?_
      refine wf_getR (pc := 26) dX3_takesHead_26 fl_X3_12 lk_2 (hR 2 0 3 rfl) ?_
      refine wf_getI (pc := 29) dX3_takesHead_29 fl_X3_78 IL_3.1 ?_
      rw [hX1.2.1.2.2]
      refine wp_bipush (pc := 32) (x := nI 12) dX3_takesHead_32 bp_12 ?_
      refine wp_icmp_gt (pc := 34) 41 dX3_takesHead_34 (by decide) (fun h34 => ?_) (fun h34 => ?_)
      · refine wp_ic (pc := 41) (x := nI 0) dX3_takesHead_41 ic_0 ?_
        refine wf_zret (pc := 42) (false) dX3_takesHead_42 rfl rfl ?_
        first | exact Tk.no (Sz.w (by decide)) (Sm.w (by omega) (by omega)) hX.1.1 hX.1.2.1 (by unfold oH tkH; rw [if_neg e0, if_pos e1, if_neg h34]; rfl) | exact Tk.no (Sz.w (by decide)) (Sm.w (by omega) (by omega)) hX.1.1 hX.1.2.1 (by unfold oH tkH; rw [if_neg e0, if_pos e1, if_neg (Int32.not_le.mpr h34)]; rfl) | exact Tk.yes (Sz.w (by decide)) (by unfold oH tkH; rw [if_neg e0, if_pos e1, if_pos h34]; rfl) hX1 | exact Tk.yes (Sz.w (by decide)) (by unfold oH tkH; rw [if_neg e0, if_pos e1, if_pos (Int32.not_lt.mp h34)]; rfl) hX1
      · refine wp_ic (pc := 37) (x := nI 1) dX3_takesHead_37 ic_1 ?_
        refine wp_goto (pc := 38) 42 dX3_takesHead_38 (by decide) ?_
        refine wf_zret (pc := 42) (true) dX3_takesHead_42 rfl rfl ?_
        first | exact Tk.no (Sz.w (by decide)) (Sm.w (by omega) (by omega)) hX.1.1 hX.1.2.1 (by unfold oH tkH; rw [if_neg e0, if_pos e1, if_neg h34]; rfl) | exact Tk.no (Sz.w (by decide)) (Sm.w (by omega) (by omega)) hX.1.1 hX.1.2.1 (by unfold oH tkH; rw [if_neg e0, if_pos e1, if_neg (Int32.not_le.mpr h34)]; rfl) | exact Tk.yes (Sz.w (by decide)) (by unfold oH tkH; rw [if_neg e0, if_pos e1, if_pos h34]; rfl) hX1 | exact Tk.yes (Sz.w (by decide)) (by unfold oH tkH; rw [if_neg e0, if_pos e1, if_pos (Int32.not_lt.mp h34)]; rfl) hX1
  · have e0 : f = 10 := (fgI_neg hf).mp (Int32.not_le.mp h1)
    refine wp_ic (pc := 4) (x := nI 0) dX3_takesHead_4 ic_0 ?_
    refine wf_zret (pc := 5) (false) dX3_takesHead_5 rfl rfl ?_
    exact Tk.no Sz.rf Sm.rf hX.1.1 hX.1.2.1 (by unfold oH tkH; rw [if_pos e0]; rfl)
