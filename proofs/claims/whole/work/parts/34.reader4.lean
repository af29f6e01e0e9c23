theorem ls_open : ∀ t, t ≤ 255 → Op.lookupswitch.offset (#[((68 : Int), (35 : Int)), (77, 52), (80, 69)] : Array (Int × Int)).toList 77 (nI t).toInt = if t = 68 then 35 else if t = 77 then 52 else if t = 80 then 69 else 77 := by decide +kernel
theorem ls_take : ∀ t, t ≤ 255 → Op.lookupswitch.offset (#[((0 : Int), (52 : Int)), (1, 72), (68, 109), (76, 94), (77, 123)] : Array (Int × Int)).toList 134 (nI t).toInt = if t = 0 then 52 else if t = 1 then 72 else if t = 68 then 109 else if t = 76 then 94 else if t = 77 then 123 else 134 := by decide +kernel
theorem c_takesParent {l : Launch} {K : CtxT} {M : Mm} {p i q f : Nat} {Λ : Lw} {P : Pg} (hR : RS M) (hX : XR M p i q Λ P) (hL : OkN Λ) (hf : f ≤ 10) (hp : PaOk Λ) (hq : i ≠ 1 → q < lD Λ) (hi : 1 ≤ i ∧ i ≤ 6) : Ci l K 3 mX3_takesParent [.ref (K.1 + 2), .int (fgI f)] M (Tk M p i (oP P (tkP i f q Λ))) := by
  refine ci_of (L := [some (.ref (K.1 + 2)), some (.int (fgI f))]) (by decide +kernel) (Nat.le_of_ble_eq_true rfl) rfl rfl (fun E => ?_)
  have hD5 : lD Λ ≤ 5 := by have := hL.1; omega
  have hD := hL.1
  refine wp_aload_n (pc := 0) dX3_takesParent_0 rfl ?_
  refine wf_getR (pc := 1) dX3_takesParent_1 fl_X3_12 lk_2 (hR 2 0 3 rfl) ?_
  refine wp_iload_n (pc := 4) dX3_takesParent_4 rfl ?_
  refine wf_callVi (pc := 5) dX3_takesParent_5 cl_X3_108 (c_hasDog (Λ := Λ) IL_3 hR hL (hX.XL hL)) IL_3.1 rfl rfl rfl rfl (Nat.le_of_ble_eq_true rfl) (by decide) ⟨Nat.le_refl _, Nat.le_refl _⟩ (fun r5 M5 q5 => ?_)
  rw [q5.1, q5.2]
  refine wp_if_ne (pc := 8) 13 dX3_takesParent_8 (by decide) (fun h8 => ?_) (fun h8 => ?_)
  · have h8 := b2i_1 h8
    rw [inD_fg hf hD5] at h8
    have e0 : f < lD Λ := of_decide_eq_true h8
    rw [fgI_n (show f ≠ 10 by omega)]
    refine wp_aload_n (pc := 13) dX3_takesParent_13 rfl ?_
    refine wf_getI (pc := 14) dX3_takesParent_14 fl_X3_29 lk_2 ?_
    rw [hX.1.2.1]
    refine wp_ic (pc := 17) (x := nI 1) dX3_takesParent_17 ic_1 ?_
    refine wp_icmp_ne (pc := 18) 28 dX3_takesParent_18 (by decide) (fun h18 => ?_) (fun h18 => ?_)
    · have e1 : ¬ i = 1 := fun q => h18 (by rw [q])
      refine wp_aload_n (pc := 28) dX3_takesParent_28 rfl ?_
      refine wf_getR (pc := 29) dX3_takesParent_29 fl_X3_12 lk_2 (hR 2 0 3 rfl) ?_
      refine wp_aload_n (pc := 32) dX3_takesParent_32 rfl ?_
      refine wf_getI (pc := 33) dX3_takesParent_33 fl_X3_32 lk_2 ?_
      rw [hX.1.2.2]
      refine wp_iload_n (pc := 36) dX3_takesParent_36 rfl ?_
      refine wf_callVi (pc := 37) dX3_takesParent_37 cl_X3_121 (c_mayParent (Λ := Λ) IL_3 hR hL (hX.XL hL) hp (hq e1) e0) IL_3.1 rfl rfl rfl rfl (Nat.le_of_ble_eq_true rfl) (by decide) ⟨Nat.le_refl _, Nat.le_refl _⟩ (fun r37 M37 q37 => ?_)
      rw [q37.1, q37.2]
      refine wp_if_ne (pc := 40) 45 dX3_takesParent_40 (by decide) (fun h40 => ?_) (fun h40 => ?_)
      · have h40 := b2i_1 h40
        have e2 : q ≠ f ∧ lPa Λ f = no9 ∧ cfN (pq (lPa Λ)) (lD Λ) 4 q f = false := by simpa [and_assoc] using h40
        refine wp_aload_n (pc := 45) dX3_takesParent_45 rfl ?_
        refine wf_getR (pc := 46) dX3_takesParent_46 fl_X3_12 lk_2 (hR 2 0 3 rfl) ?_
        refine wf_getR (pc := 49) dX3_takesParent_49 fl_X3_103 IL_3.1 (hR 3 7 7 rfl) ?_
        refine wp_iload_n (pc := 52) dX3_takesParent_52 rfl ?_
        refine wp_aload_n (pc := 53) dX3_takesParent_53 rfl ?_
        refine wf_getI (pc := 54) dX3_takesParent_54 fl_X3_32 lk_2 ?_
        rw [hX.1.2.2]
        refine wf_iast (pc := 57) (j := f) dX3_takesParent_57 IL_3.2.2.2.2 rfl (by omega) ?_
        have hX1 := hX.pa f (nI q)
        refine wp_ic (pc := 58) (x := nI 1) dX3_takesParent_58 ic_1 ?_
        refine wf_zret (pc := 59) (true) dX3_takesParent_59 rfl rfl ?_
        exact Tk.yes (Sz.w (by decide)) (by unfold oP tkP; rw [if_neg (by omega), if_neg e1, if_pos e2]; rfl) hX1
      · have h40 := b2i_0 h40
        have e2 : ¬ (q ≠ f ∧ lPa Λ f = no9 ∧ cfN (pq (lPa Λ)) (lD Λ) 4 q f = false) := fun w => by rw [decide_eq_true w.1, decide_eq_true w.2.1, w.2.2] at h40; simp at h40
        refine wp_ic (pc := 43) (x := nI 0) dX3_takesParent_43 ic_0 ?_
        refine wf_zret (pc := 44) (false) dX3_takesParent_44 rfl rfl ?_
        exact Tk.no Sz.rf Sm.rf hX.1.1 hX.1.2.1 (by unfold oP tkP; rw [if_neg (by omega), if_neg e1, if_neg e2]; rfl)
    · have e1 : i = 1 := (nI_eq (by omega) (by decide)).mp h18
      refine wp_aload_n (pc := 21) dX3_takesParent_21 rfl ?_
      refine wp_iload_n (pc := 22) dX3_takesParent_22 rfl ?_
      refine wf_putI (pc := 23) dX3_takesParent_23 fl_X3_32 lk_2 ?_
      have hX1 : XR (wI M 2 4 (nI f)) p i f Λ P := hX.pl (Sm.w (by omega) (by omega)) ((wI_nk (by decide)).trans hX.1.1) ((wI_nk (by decide)).trans hX.1.2.1) (wI_at _ _ _ _)
      refine wp_ic (pc := 26) (x := nI 1) dX3_takesParent_26 ic_1 ?_
      refine wf_zret (pc := 27) (true) dX3_takesParent_27 rfl rfl ?_
      exact Tk.yes (Sz.w (by decide)) (by unfold oP tkP; rw [if_neg (by omega), if_pos e1]; rfl) hX1
  · have h8 := b2i_0 h8
    rw [inD_fg hf hD5] at h8
    have e0 : ¬ f < lD Λ := of_decide_eq_false h8
    refine wp_ic (pc := 11) (x := nI 0) dX3_takesParent_11 ic_0 ?_
    refine wf_zret (pc := 12) (false) dX3_takesParent_12 rfl rfl ?_
    exact Tk.no Sz.rf Sm.rf hX.1.1 hX.1.2.1 (by unfold oP tkP; rw [if_pos e0]; rfl)
theorem c_mayOpen {l : Launch} {K : CtxT} {M : Mm} {p i q t : Nat} {Λ : Lw} {P : Pg} (hR : RS M) (hX : XR M p i q Λ P) (hL : OkN Λ) (ht : t ≤ 255) : Ci l K 2 mX3_mayOpen [.ref (K.1 + 2), .int (nI t)] M (fun r M' => r = b2i (mayO Λ t) ∧ M' = M) := by
  refine ci_of (L := [some (.ref (K.1 + 2)), some (.int (nI t))]) (by decide +kernel) (Nat.le_of_ble_eq_true rfl) rfl rfl (fun E => ?_)
  have hD := hL.1
  have hM := hL.2.1
  refine wp_iload_n (pc := 0) dX3_mayOpen_0 rfl ?_
  by_cases k68 : t = 68
  · refine wp_lookup (pc := 1) 36 dX3_mayOpen_1 (by decide) ((ls_open t ht).trans (if_pos k68)) (by decide) ?_
    refine wp_aload_n (pc := 36) dX3_mayOpen_36 rfl ?_
    refine wf_getR (pc := 37) dX3_mayOpen_37 fl_X3_12 lk_2 (hR 2 0 3 rfl) ?_
    refine wf_getI (pc := 40) dX3_mayOpen_40 fl_X3_68 IL_3.1 ?_
    rw [hX.2.1.1]
    refine wp_ic (pc := 43) (x := nI 4) dX3_mayOpen_43 ic_4 ?_
    refine wp_icmp_ge (pc := 44) 51 dX3_mayOpen_44 (by decide) (fun h44 => ?_) (fun h44 => ?_)
    · have e : decide (lD Λ < 4) = false := decide_eq_false (by rcases Nat.lt_or_ge (lD Λ) 4 with q | q; exact absurd h44 (nI_ge q (by omega)); omega)
      refine wp_ic (pc := 51) (x := nI 0) dX3_mayOpen_51 ic_0 ?_
      refine wf_zret (pc := 52) (false) dX3_mayOpen_52 rfl rfl ?_
      refine ⟨?_, rfl⟩
      unfold mayO; rw [if_pos k68, e]
    · have e : decide (lD Λ < 4) = true := decide_eq_true (by rcases Nat.lt_or_ge (lD Λ) 4 with q | q; exact q; exact absurd (nI_le q (by omega)) h44)
      refine wp_ic (pc := 47) (x := nI 1) dX3_mayOpen_47 ic_1 ?_
      refine wp_goto (pc := 48) 52 dX3_mayOpen_48 (by decide) ?_
      refine wf_zret (pc := 52) (true) dX3_mayOpen_52 rfl rfl ?_
      refine ⟨?_, rfl⟩
      unfold mayO; rw [if_pos k68, e]
  by_cases k77 : t = 77
  · refine wp_lookup (pc := 1) 53 dX3_mayOpen_1 (by decide) ((ls_open t ht).trans ((if_neg k68).trans (if_pos k77))) (by decide) ?_
    refine wp_aload_n (pc := 53) dX3_mayOpen_53 rfl ?_
    refine wf_getR (pc := 54) dX3_mayOpen_54 fl_X3_12 lk_2 (hR 2 0 3 rfl) ?_
    refine wf_getI (pc := 57) dX3_mayOpen_57 fl_X3_71 IL_3.1 ?_
    rw [hX.2.1.2.1]
    refine wp_ic (pc := 60) (x := nI 5) dX3_mayOpen_60 ic_5 ?_
    refine wp_icmp_ge (pc := 61) 68 dX3_mayOpen_61 (by decide) (fun h61 => ?_) (fun h61 => ?_)
    · have e : decide (lM Λ < 5) = false := decide_eq_false (by rcases Nat.lt_or_ge (lM Λ) 5 with q | q; exact absurd h61 (nI_ge q (by omega)); omega)
      refine wp_ic (pc := 68) (x := nI 0) dX3_mayOpen_68 ic_0 ?_
      refine wf_zret (pc := 69) (false) dX3_mayOpen_69 rfl rfl ?_
      refine ⟨?_, rfl⟩
      unfold mayO; rw [if_neg k68, if_pos k77, e]
    · have e : decide (lM Λ < 5) = true := decide_eq_true (by rcases Nat.lt_or_ge (lM Λ) 5 with q | q; exact q; exact absurd (nI_le q (by omega)) h61)
      refine wp_ic (pc := 64) (x := nI 1) dX3_mayOpen_64 ic_1 ?_
      refine wp_goto (pc := 65) 69 dX3_mayOpen_65 (by decide) ?_
      refine wf_zret (pc := 69) (true) dX3_mayOpen_69 rfl rfl ?_
      refine ⟨?_, rfl⟩
      unfold mayO; rw [if_neg k68, if_pos k77, e]
  by_cases k80 : t = 80
  · refine wp_lookup (pc := 1) 70 dX3_mayOpen_1 (by decide) ((ls_open t ht).trans ((if_neg k68).trans ((if_neg k77).trans (if_pos k80)))) (by decide) ?_
    refine wp_aload_n (pc := 70) dX3_mayOpen_70 rfl ?_
    refine wf_getR (pc := 71) dX3_mayOpen_71 fl_X3_12 lk_2 (hR 2 0 3 rfl) ?_
    refine wf_callVi (pc := 74) dX3_mayOpen_74 cl_X3_74 (c_mayParentSome (Λ := Λ) IL_3 hR hL (hX.XL hL)) IL_3.1 rfl rfl rfl rfl (Nat.le_of_ble_eq_true rfl) (by decide) ⟨Nat.le_refl _, Nat.le_refl _⟩ (fun r74 M74 q74 => ?_)
    rw [q74.1, q74.2]
    refine wf_zret (pc := 77) (_) dX3_mayOpen_77 rfl rfl ?_
    refine ⟨?_, rfl⟩
    unfold mayO; rw [if_neg k68, if_neg k77, if_pos k80]
  refine wp_lookup (pc := 1) 78 dX3_mayOpen_1 (by decide) ((ls_open t ht).trans ((if_neg k68).trans ((if_neg k77).trans (if_neg k80)))) (by decide) ?_
  refine wp_ic (pc := 78) (x := nI 0) dX3_mayOpen_78 ic_0 ?_
  refine wf_zret (pc := 79) (false) dX3_mayOpen_79 rfl rfl ?_
  refine ⟨?_, rfl⟩
  unfold mayO; rw [if_neg k68, if_neg k77, if_neg k80]
/-- a step of the reader: what a byte makes of its state; none: it is refused -/
def stp (σ : Rs) (t : Nat) : Option Rs :=
  if σ.1 = 0 then (if t = 76 then some (76, 1, σ.2.2) else none)
  else if σ.1 = 1 then (if mayO σ.2.2.2.1 t = true then some (t, 1, σ.2.2) else none)
  else if σ.1 = 68 then (oD σ.2.2.1 (tkD σ.2.1 (fgN t) σ.2.2.2.1 σ.2.2.2.2)).map (fun c => (if σ.2.1 + 1 = 4 then 1 else σ.1, σ.2.1 + 1, c))
  else if σ.1 = 76 then (oH σ.2.2.1 σ.2.2.2.2 (tkH σ.2.1 (fgN t) σ.2.2.2.1)).map (fun c => (if σ.2.1 + 1 = 7 then 1 else σ.1, σ.2.1 + 1, c))
  else if σ.1 = 77 then (oD σ.2.2.1 (tkM σ.2.1 t σ.2.2.2.1 σ.2.2.2.2)).map (fun c => (if σ.2.1 + 1 = 4 then 1 else σ.1, σ.2.1 + 1, c))
  else (oP σ.2.2.2.2 (tkP σ.2.1 (fgN t) σ.2.2.1 σ.2.2.2.1)).map (fun c => (if σ.2.1 + 1 = 3 then 1 else σ.1, σ.2.1 + 1, c))
/-- how many bytes a part has -/
def szN (p : Nat) : Nat := if p = 76 then 7 else if p = 80 then 3 else 4
theorem szN_le (p : Nat) : szN p ≤ 7 := by
  unfold szN
  split
  · decide
  · split <;> decide
/-- what holds of the reader's state on its way -/
def OkR (σ : Rs) : Prop := OkN σ.2.2.2.1 ∧ PaOk σ.2.2.2.1 ∧ (σ.1 = 0 ∨ σ.1 = 1 ∨ σ.1 = 68 ∨ σ.1 = 76 ∨ σ.1 = 77 ∨ σ.1 = 80) ∧ (1 < σ.1 → 1 ≤ σ.2.1 ∧ σ.2.1 < szN σ.1) ∧ (σ.1 = 80 → σ.2.1 ≠ 1 → σ.2.2.1 < lD σ.2.2.2.1)
def TkS (M : Mm) (σ : Rs) (t : Nat) (r : Int32) (M' : Mm) : Prop := Sz M M' ∧ ((r = b2i false ∧ stp σ t = none) ∨ ∃ σ', r = b2i true ∧ stp σ t = some σ' ∧ XR M' σ'.1 σ'.2.1 σ'.2.2.1 σ'.2.2.2.1 σ'.2.2.2.2)
theorem Tk.go {M M1 M2 : Mm} {p i n t : Nat} {σ : Rs} {o : Option (Nat × Lw × Pg)} {r1 r2 : Int32} (h : Tk M p i o r1 M1) (e2 : r2 = r1) (s : Sm 2 3 M1 M2) (h2 : M2.1 2 2 = nI (if i + 1 = n then 1 else p)) (h3 : M2.1 2 3 = nI (i + 1)) (h4 : M2.1 2 4 = M1.1 2 4) (hs : stp σ t = o.map (fun c => (if i + 1 = n then 1 else p, i + 1, c))) : TkS M σ t r2 M2 := by
  obtain ⟨z, -, -, h⟩ := h
  refine ⟨z.tr ⟨s.1, fun a ha k => s.2 a (by omega) k⟩, ?_⟩
  rcases h with ⟨rfl, rfl⟩ | ⟨c, rfl, rfl, hX⟩
  · exact Or.inl ⟨e2, hs⟩
  · exact Or.inr ⟨_, e2, hs, hX.pl s h2 h3 (h4.trans hX.1.2.2)⟩
theorem Tk.b {M M1 : Mm} {p i : Nat} {o : Option (Nat × Lw × Pg)} {r1 : Int32} (h : Tk M p i o r1 M1) : ∃ b, r1 = b2i b := by
  rcases h.2.2.2 with ⟨h, -⟩ | ⟨c, h, -⟩ <;> exact ⟨_, h⟩
theorem c_takes {l : Launch} {K : CtxT} {M : Mm} {p i q t : Nat} {Λ : Lw} {P : Pg} (hR : RS M) (hX : XR M p i q Λ P) (hO : OkR (p, i, q, Λ, P)) (ht : t ≤ 255) : Ci l K 4 mX3_takes [.ref (K.1 + 2), .int (nI t)] M (TkS M (p, i, q, Λ, P) t) := by
  refine ci_of (L := [some (.ref (K.1 + 2)), some (.int (nI t))]) (by decide +kernel) (Nat.le_of_ble_eq_true rfl) rfl rfl (fun E => ?_)
  obtain ⟨hL, hp, hc, hi, hq⟩ := hO
  have hL : OkN Λ := hL
  have hp : PaOk Λ := hp
  have hc : p = 0 ∨ p = 1 ∨ p = 68 ∨ p = 76 ∨ p = 77 ∨ p = 80 := hc
  have hi : 1 < p → 1 ≤ i ∧ i ≤ 6 := fun w => ⟨(hi w).1, by have h1 : i < szN p := (hi w).2; have h2 := szN_le p; omega⟩
  have hq : p = 80 → i ≠ 1 → q < lD Λ := hq
  refine wp_aload_n (pc := 0) dX3_takes_0 rfl ?_
  refine wf_getI (pc := 1) dX3_takes_1 fl_X3_25 lk_2 ?_
  rw [hX.1.1]
  by_cases k0 : p = 0
  · refine wp_lookup (pc := 4) 56 dX3_takes_4 (by decide) ((ls_take p (by omega)).trans (if_pos k0)) (by decide) ?_
    refine wp_iload_n (pc := 56) dX3_takes_56 rfl ?_
    refine wp_bipush (pc := 57) (x := nI 76) dX3_takes_57 bp_76 ?_
    refine wp_icmp_ne (pc := 59) 74 dX3_takes_59 (by decide) (fun h59 => ?_) (fun h59 => ?_)
    · have e : ¬ t = 76 := fun q => h59 (by rw [q])
      refine wp_ic (pc := 74) (x := nI 0) dX3_takes_74 ic_0 ?_
      refine wf_zret (pc := 75) (false) dX3_takes_75 rfl rfl ?_
      first | (exact ⟨Sz.rf, Or.inl ⟨rfl, by unfold stp; rw [if_pos k0, if_neg e]⟩⟩) | (exact ⟨z1, Or.inr ⟨(76, 1, q, Λ, P), rfl, by unfold stp; rw [if_pos k0, if_pos e], by rw [← e]; exact hX1⟩⟩)
    · have e : t = 76 := (nI_eq (by omega) (by decide)).mp h59
      refine wp_aload_n (pc := 62) dX3_takes_62 rfl ?_
      refine wp_iload_n (pc := 63) dX3_takes_63 rfl ?_
      refine wf_callVi (pc := 64) dX3_takes_64 cl_X3_42 c_opens lk_2 rfl rfl rfl rfl (Nat.le_of_ble_eq_true rfl) (by decide) ⟨Nat.le_refl _, Nat.le_refl _⟩ (fun r64 M64 q64 => ?_)
      have hX1 : XR M64 t 1 q Λ P := by rw [q64.2]; exact hX.pl ((Sm.w (by omega) (by omega)).tr (Sm.w (by omega) (by omega))) ((wI_nk (by decide)).trans (wI_at _ _ _ _)) (wI_at _ _ _ _) ((wI_nk (by decide)).trans ((wI_nk (by decide)).trans hX.1.2.2))
      have z1 : Sz M M64 := by rw [q64.2]; exact Sz.tr (Sz.w (by decide)) (Sz.w (by decide))
      rw [q64.1]
      refine wp_if_eq (pc := 67) 74 dX3_takes_67 (by decide) (fun h67 => ?_) (fun h67 => ?_)
      · exact absurd h67 (by decide)
      · have h67 := b2i_1 h67
        refine wp_ic (pc := 70) (x := nI 1) dX3_takes_70 ic_1 ?_
        refine wp_goto (pc := 71) 75 dX3_takes_71 (by decide) ?_
        refine wf_zret (pc := 75) (true) dX3_takes_75 rfl rfl ?_
        first | (exact ⟨Sz.rf, Or.inl ⟨rfl, by unfold stp; rw [if_pos k0, if_neg e]⟩⟩) | (exact ⟨z1, Or.inr ⟨(76, 1, q, Λ, P), rfl, by unfold stp; rw [if_pos k0, if_pos e], by rw [← e]; exact hX1⟩⟩)
  by_cases k1 : p = 1
  · refine wp_lookup (pc := 4) 76 dX3_takes_4 (by decide) ((ls_take p (by omega)).trans ((if_neg k0).trans (if_pos k1))) (by decide) ?_
    refine wp_aload_n (pc := 76) dX3_takes_76 rfl ?_
    refine wp_iload_n (pc := 77) dX3_takes_77 rfl ?_
    refine wf_callVi (pc := 78) dX3_takes_78 cl_X3_45 (c_mayOpen hR hX hL ht) lk_2 rfl rfl rfl rfl (Nat.le_of_ble_eq_true rfl) (by decide) ⟨Nat.le_refl _, Nat.le_refl _⟩ (fun r78 M78 q78 => ?_)
    rw [q78.1, q78.2]
    refine wp_if_eq (pc := 81) 96 dX3_takes_81 (by decide) (fun h81 => ?_) (fun h81 => ?_)
    · have h81 := b2i_0 h81
      refine wp_ic (pc := 96) (x := nI 0) dX3_takes_96 ic_0 ?_
      refine wf_zret (pc := 97) (false) dX3_takes_97 rfl rfl ?_
      first | (exact ⟨Sz.rf, Or.inl ⟨rfl, by unfold stp; rw [if_neg k0, if_pos k1, if_neg (by rw [h81]; decide)]⟩⟩) | (exact ⟨z1, Or.inr ⟨(t, 1, q, Λ, P), rfl, by unfold stp; rw [if_neg k0, if_pos k1, if_pos h81], hX1⟩⟩)
    · have h81 := b2i_1 h81
      refine wp_aload_n (pc := 84) dX3_takes_84 rfl ?_
      refine wp_iload_n (pc := 85) dX3_takes_85 rfl ?_
      refine wf_callVi (pc := 86) dX3_takes_86 cl_X3_42 c_opens lk_2 rfl rfl rfl rfl (Nat.le_of_ble_eq_true rfl) (by decide) ⟨Nat.le_refl _, Nat.le_refl _⟩ (fun r86 M86 q86 => ?_)
      have hX1 : XR M86 t 1 q Λ P := by rw [q86.2]; exact hX.pl ((Sm.w (by omega) (by omega)).tr (Sm.w (by omega) (by omega))) ((wI_nk (by decide)).trans (wI_at _ _ _ _)) (wI_at _ _ _ _) ((wI_nk (by decide)).trans ((wI_nk (by decide)).trans hX.1.2.2))
      have z1 : Sz M M86 := by rw [q86.2]; exact Sz.tr (Sz.w (by decide)) (Sz.w (by decide))
      rw [q86.1]
      refine wp_if_eq (pc := 89) 96 dX3_takes_89 (by decide) (fun h89 => ?_) (fun h89 => ?_)
      · exact absurd h89 (by decide)
      · have h89 := b2i_1 h89
        refine wp_ic (pc := 92) (x := nI 1) dX3_takes_92 ic_1 ?_
        refine wp_goto (pc := 93) 97 dX3_takes_93 (by decide) ?_
        refine wf_zret (pc := 97) (true) dX3_takes_97 rfl rfl ?_
        first | (exact ⟨Sz.rf, Or.inl ⟨rfl, by unfold stp; rw [if_neg k0, if_pos k1, if_neg (by rw [h81]; decide)]⟩⟩) | (exact ⟨z1, Or.inr ⟨(t, 1, q, Λ, P), rfl, by unfold stp; rw [if_neg k0, if_pos k1, if_pos h81], hX1⟩⟩)
  by_cases k68 : p = 68
  · refine wp_lookup (pc := 4) 113 dX3_takes_4 (by decide) ((ls_take p (by omega)).trans ((if_neg k0).trans ((if_neg k1).trans (if_pos k68)))) (by decide) ?_
    refine wp_aload_n (pc := 113) dX3_takes_113 rfl ?_
    refine wp_aload_n (pc := 114) dX3_takes_114 rfl ?_
    refine wp_iload_n (pc := 115) dX3_takes_115 rfl ?_
    refine wf_callSi (pc := 116) dX3_takes_116 cl_X3_48 (c_figure ht) rfl rfl (Nat.le_of_ble_eq_true rfl) (by decide) ⟨Nat.le_refl _, Nat.le_refl _⟩ (fun r116 M116 q116 => ?_)
    rw [q116.1, q116.2]
    refine wf_callVi (pc := 119) dX3_takes_119 cl_X3_59 (c_takesDog hR hX hL (fgN_le t) (hi (by omega))) lk_2 rfl rfl rfl rfl (Nat.le_of_ble_eq_true rfl) (by decide) ⟨Nat.le_refl _, Nat.le_refl _⟩ (fun r119 M119 q119 => ?_)
    obtain ⟨b, hb119⟩ := q119.b
    subst hb119
    refine wp_ic (pc := 122) (x := nI 4) dX3_takes_122 ic_4 ?_
    refine wf_callVi (pc := 123) dX3_takes_123 cl_X3_55 (c_goesOn q119.2.1 q119.2.2.1 (by have := hi (by omega); omega) (by decide)) lk_2 rfl rfl rfl rfl (Nat.le_of_ble_eq_true rfl) (by decide) ⟨Nat.le_refl _, Nat.le_refl _⟩ (fun r123 M123 q123 => ?_)
    refine wf_zret (pc := 126) (_) dX3_takes_126 rfl q123.1 ?_
    exact q119.go rfl q123.2.1 q123.2.2.1 q123.2.2.2.1 q123.2.2.2.2 (by unfold stp; rw [if_neg k0, if_neg k1, if_pos k68])
  by_cases k76 : p = 76
  · refine wp_lookup (pc := 4) 98 dX3_takes_4 (by decide) ((ls_take p (by omega)).trans ((if_neg k0).trans ((if_neg k1).trans ((if_neg k68).trans (if_pos k76))))) (by decide) ?_
    refine wp_aload_n (pc := 98) dX3_takes_98 rfl ?_
    refine wp_aload_n (pc := 99) dX3_takes_99 rfl ?_
    refine wp_iload_n (pc := 100) dX3_takes_100 rfl ?_
    refine wf_callSi (pc := 101) dX3_takes_101 cl_X3_48 (c_figure ht) rfl rfl (Nat.le_of_ble_eq_true rfl) (by decide) ⟨Nat.le_refl _, Nat.le_refl _⟩ (fun r101 M101 q101 => ?_)
    rw [q101.1, q101.2]
    refine wf_callVi (pc := 104) dX3_takes_104 cl_X3_52 (c_takesHead hR hX hL (fgN_le t) (hi (by omega))) lk_2 rfl rfl rfl rfl (Nat.le_of_ble_eq_true rfl) (by decide) ⟨Nat.le_refl _, Nat.le_refl _⟩ (fun r104 M104 q104 => ?_)
    obtain ⟨b, hb104⟩ := q104.b
    subst hb104
    refine wp_bipush (pc := 107) (x := nI 7) dX3_takes_107 bp_7 ?_
    refine wf_callVi (pc := 109) dX3_takes_109 cl_X3_55 (c_goesOn q104.2.1 q104.2.2.1 (by have := hi (by omega); omega) (by decide)) lk_2 rfl rfl rfl rfl (Nat.le_of_ble_eq_true rfl) (by decide) ⟨Nat.le_refl _, Nat.le_refl _⟩ (fun r109 M109 q109 => ?_)
    refine wf_zret (pc := 112) (_) dX3_takes_112 rfl q109.1 ?_
    exact q104.go rfl q109.2.1 q109.2.2.1 q109.2.2.2.1 q109.2.2.2.2 (by unfold stp; rw [if_neg k0, if_neg k1, if_neg k68, if_pos k76])
  by_cases k77 : p = 77
  · refine wp_lookup (pc := 4) 127 dX3_takes_4 (by decide) ((ls_take p (by omega)).trans ((if_neg k0).trans ((if_neg k1).trans ((if_neg k68).trans ((if_neg k76).trans (if_pos k77)))))) (by decide) ?_
    refine wp_aload_n (pc := 127) dX3_takes_127 rfl ?_
    refine wp_aload_n (pc := 128) dX3_takes_128 rfl ?_
    refine wp_iload_n (pc := 129) dX3_takes_129 rfl ?_
    refine wf_callVi (pc := 130) dX3_takes_130 cl_X3_62 (c_takesMan hR hX hL ht (hi (by omega))) lk_2 rfl rfl rfl rfl (Nat.le_of_ble_eq_true rfl) (by decide) ⟨Nat.le_refl _, Nat.le_refl _⟩ (fun r130 M130 q130 => ?_)
    obtain ⟨b, hb130⟩ := q130.b
    subst hb130
    refine wp_ic (pc := 133) (x := nI 4) dX3_takes_133 ic_4 ?_
    refine wf_callVi (pc := 134) dX3_takes_134 cl_X3_55 (c_goesOn q130.2.1 q130.2.2.1 (by have := hi (by omega); omega) (by decide)) lk_2 rfl rfl rfl rfl (Nat.le_of_ble_eq_true rfl) (by decide) ⟨Nat.le_refl _, Nat.le_refl _⟩ (fun r134 M134 q134 => ?_)
    refine wf_zret (pc := 137) (_) dX3_takes_137 rfl q134.1 ?_
    exact q130.go rfl q134.2.1 q134.2.2.1 q134.2.2.2.1 q134.2.2.2.2 (by unfold stp; rw [if_neg k0, if_neg k1, if_neg k68, if_neg k76, if_pos k77])
  refine wp_lookup (pc := 4) 138 dX3_takes_4 (by decide) ((ls_take p (by omega)).trans ((if_neg k0).trans ((if_neg k1).trans ((if_neg k68).trans ((if_neg k76).trans (if_neg k77)))))) (by decide) ?_
  refine wp_aload_n (pc := 138) dX3_takes_138 rfl ?_
  refine wp_aload_n (pc := 139) dX3_takes_139 rfl ?_
  refine wp_iload_n (pc := 140) dX3_takes_140 rfl ?_
  refine wf_callSi (pc := 141) dX3_takes_141 cl_X3_48 (c_figure ht) rfl rfl (Nat.le_of_ble_eq_true rfl) (by decide) ⟨Nat.le_refl _, Nat.le_refl _⟩ (fun r141 M141 q141 => ?_)
  rw [q141.1, q141.2]
  refine wf_callVi (pc := 144) dX3_takes_144 cl_X3_65 (c_takesParent hR hX hL (fgN_le t) hp (hq (by omega)) (hi (by omega))) lk_2 rfl rfl rfl rfl (Nat.le_of_ble_eq_true rfl) (by decide) ⟨Nat.le_refl _, Nat.le_refl _⟩ (fun r144 M144 q144 => ?_)
  obtain ⟨b, hb144⟩ := q144.b
  subst hb144
  refine wp_ic (pc := 147) (x := nI 3) dX3_takes_147 ic_3 ?_
  refine wf_callVi (pc := 148) dX3_takes_148 cl_X3_55 (c_goesOn q144.2.1 q144.2.2.1 (by have := hi (by omega); omega) (by decide)) lk_2 rfl rfl rfl rfl (Nat.le_of_ble_eq_true rfl) (by decide) ⟨Nat.le_refl _, Nat.le_refl _⟩ (fun r148 M148 q148 => ?_)
  refine wf_zret (pc := 151) (_) dX3_takes_151 rfl q148.1 ?_
  exact q144.go rfl q148.2.1 q148.2.2.1 q148.2.2.2.1 q148.2.2.2.2 (by unfold stp; rw [if_neg k0, if_neg k1, if_neg k68, if_neg k76, if_neg k77])
