/-! the reference's reader -/
abbrev byt (T : Pg) (k : Nat) : Nat := (T k).toNatClampNeg
/-- a text in the reference, read up to k -/
def RT (M : Mm) (T : Pg) (n k : Nat) : Prop := (M.1 150 2 = nI n ∧ M.1 150 3 = nI k) ∧ (∀ j, j < n → M.1 151 j = T j) ∧ (∀ j, j < n → ∃ t, t ≤ 255 ∧ T j = nI t) ∧ n ≤ 60 ∧ k ≤ n
theorem RT.byte {M : Mm} {T : Pg} {n k : Nat} (h : RT M T n k) {j : Nat} (hj : j < n) : byt T j ≤ 255 ∧ M.1 151 j = nI (byt T j) := by
  obtain ⟨t, ht, e⟩ := h.2.2.1 j hj
  have : byt T j = t := by unfold byt; rw [e, nI_cl (by omega)]
  rw [this]
  exact ⟨ht, (h.2.1 j hj).trans e⟩
theorem RT.mv {M M' : Mm} {T : Pg} {n k k' : Nat} (h : RT M T n k) (h1 : M'.1 150 2 = M.1 150 2) (h2 : M'.1 150 3 = nI k') (h3 : ∀ j, M'.1 151 j = M.1 151 j) (hk : k' ≤ n) : RT M' T n k' := ⟨⟨h1.trans h.1.1, h2⟩, fun j hj => (h3 j).trans (h.2.1 j hj), h.2.2.1, h.2.2.2.1, hk⟩
theorem RT.nx {M : Mm} {T : Pg} {n k : Nat} (h : RT M T n k) (hk : k < n) : RT (wI M 150 3 (nI (k + 1))) T n (k + 1) := h.mv (wI_nk (by decide)) (wI_at _ _ _ _) (fun j => wI_na (by decide)) hk
/-- what reading changes -/
def Sq (M M' : Mm) : Prop := M'.2 = M.2 ∧ (∀ k, k ≠ 3 → (k < 10 ∨ 13 ≤ k) → M'.1 150 k = M.1 150 k) ∧ ∀ a, a ≠ 150 → (a < 155 ∨ 158 ≤ a) → ∀ k, M'.1 a k = M.1 a k
theorem Sq.rf {M : Mm} : Sq M M := ⟨rfl, fun _ _ _ => rfl, fun _ _ _ _ => rfl⟩
theorem Sq.tr {M M1 M2 : Mm} (h1 : Sq M M1) (h2 : Sq M1 M2) : Sq M M2 := ⟨h2.1.trans h1.1, fun k a b => (h2.2.1 k a b).trans (h1.2.1 k a b), fun a b c k => (h2.2.2 a b c k).trans (h1.2.2 a b c k)⟩
theorem Sq.f {M : Mm} {k : Nat} {x : Int32} (hk : k = 3 ∨ 10 ≤ k ∧ k < 13) : Sq M (wI M 150 k x) := ⟨rfl, fun j h1 h2 => wI_nk (by omega), fun a h1 h2 j => wI_na h1⟩
theorem Sq.w {M : Mm} {a k : Nat} {x : Int32} (ha : 155 ≤ a ∧ a < 158) : Sq M (wI M a k x) := ⟨rfl, fun j h1 h2 => wI_na (by omega), fun b h1 h2 j => wI_na (by omega)⟩
theorem Sq.rs {M M' : Mm} (h : Sq M M') (hR : RS M) : RS M' := hR.of (by rw [h.1])
/-- a figure, or one of some figures: what comes back -/
def FgA (M : Mm) (T : Pg) (n k : Nat) (ok : Nat → Bool) (r : Int32) (M' : Mm) : Prop := (r = no9 ∧ M' = M ∧ (k < n → ok (fgN (byt T k)) = false)) ∨ (k < n ∧ ok (fgN (byt T k)) = true ∧ fgN (byt T k) ≤ 9 ∧ r = nI (fgN (byt T k)) ∧ M' = wI M 150 3 (nI (k + 1)))
theorem FgA.n {M M' : Mm} {T : Pg} {n k : Nat} {ok : Nat → Bool} {r : Int32} (q : FgA M T n k ok r M') (e : r = no9) : M' = M ∧ (k < n → ok (fgN (byt T k)) = false) := by
  rcases q with ⟨_, h⟩ | ⟨_, _, h, h2, _⟩
  · exact h
  · rw [h2] at e; exact absurd e (nI_n9 (by omega))
theorem FgA.y {M M' : Mm} {T : Pg} {n k : Nat} {ok : Nat → Bool} {r : Int32} (q : FgA M T n k ok r M') (e : ¬ r = no9) : k < n ∧ ok (fgN (byt T k)) = true ∧ fgN (byt T k) ≤ 9 ∧ r = nI (fgN (byt T k)) ∧ M' = wI M 150 3 (nI (k + 1)) := by
  rcases q with ⟨h, _⟩ | h
  · exact absurd h e
  · exact h
theorem fg_lo {t : Nat} (h : t < 48) : nI t - nI 48 < 0 := by
  have e : ∀ t, t < 48 → nI t - nI 48 < 0 := by decide +kernel
  exact e t h
theorem rg_nI {a b x : Nat} (ha : a < 2 ^ 31) (hb : b < 2 ^ 31) (hx : x < 2 ^ 31) : rg a b (nI x) = decide (a ≤ x ∧ x ≤ b) := by
  by_cases h1 : x < a
  · rw [rg_n1 (nI_lt h1 ha), decide_eq_false (by omega)]
  · by_cases h2 : b < x
    · rw [rg_n2 (nI_lt h2 hx), decide_eq_false (by omega)]
    · rw [rg_y (nI_nlt (by omega) hx) (nI_nlt (by omega) hb), decide_eq_true (by omega)]
theorem fg_rg {t a b : Nat} (ht : t ≤ 255) (ha : a ≤ 9) (hb : b ≤ 9) : rg a b (nI t - nI 48) = decide (a ≤ fgN t ∧ fgN t ≤ b) := by
  unfold fgN
  by_cases h : t < 48
  · rw [if_neg (by omega), decide_eq_false (by omega)]
    exact rg_n1 (Int32.lt_of_lt_of_le (fg_lo h) (nI_le (Nat.zero_le a) (by omega)))
  · rw [pk_sub (by omega), rg_nI (by omega) (by omega) (by omega)]
    by_cases h2 : t ≤ 57
    · rw [if_pos (by omega)]
    · rw [if_neg (by omega), decide_eq_false (by omega), decide_eq_false (by omega)]
theorem fg_val {t : Nat} (h : fgN t ≤ 9) : nI t - nI 48 = nI (fgN t) := by
  unfold fgN at h ⊢
  by_cases q : 48 ≤ t ∧ t ≤ 57
  · rw [if_pos q, pk_sub q.1]
  · rw [if_neg q] at h; omega
theorem c_figR {l : Launch} {K : CtxT} {M : Mm} {T : Pg} {n k : Nat} (hR : RS M) (h : RT M T n k) {a b : Nat} (ha : a ≤ 9) (hb : b ≤ 9) : Ci l K 1 mX9_figure [.ref (K.1 + 150), .int (nI a), .int (nI b)] M (fun r M' => FgA M T n k (fun f => decide (a ≤ f ∧ f ≤ b)) r M') := by
  refine ci_of (L := [some (.ref (K.1 + 150)), some (.int (nI a)), some (.int (nI b))]) (by decide +kernel) (Nat.le_of_ble_eq_true rfl) rfl rfl (fun E => ?_)
  have hn := h.2.2.2.1
  have hkn := h.2.2.2.2
  refine wp_aload_n (pc := 0) dX9_figure_0 rfl ?_
  refine wf_getI (pc := 1) dX9_figure_1 fl_X9_84 lk_150 ?_
  rw [h.1.2]
  refine wp_aload_n (pc := 4) dX9_figure_4 rfl ?_
  refine wf_getI (pc := 5) dX9_figure_5 fl_X9_81 lk_150 ?_
  rw [h.1.1]
  refine wp_icmp_eq (pc := 8) 34 dX9_figure_8 (by decide) (fun h8 => ?_) (fun h8 => ?_)
  · have ek : ¬ k < n := by have := (nI_eq (by omega) (by omega)).mp h8; omega
    have hno : k < n → decide (a ≤ fgN (byt T k) ∧ fgN (byt T k) ≤ b) = false := fun q => absurd q ek
    refine wp_bipush (pc := 34) (x := (-9)) dX9_figure_34 bp_m9 ?_
    refine wf_iret (pc := 36) dX9_figure_36 rfl ?_
    exact Or.inl ⟨rfl, rfl, hno⟩
  · have hk : k < n := by rcases Nat.lt_or_ge k n with q | q; exact q; exact absurd (by rw [show k = n by omega]) h8
    have hb255 := (h.byte hk).1
    refine wp_aload_n (pc := 11) dX9_figure_11 rfl ?_
    refine wf_getR (pc := 12) dX9_figure_12 fl_X9_7 lk_150 (hR 150 1 151 rfl) ?_
    refine wp_aload_n (pc := 15) dX9_figure_15 rfl ?_
    refine wf_getI (pc := 16) dX9_figure_16 fl_X9_84 lk_150 ?_
    rw [h.1.2]
    refine wf_iald (pc := 19) (j := k) dX9_figure_19 lk_151 rfl (by omega) ?_
    rw [(h.byte hk).2]
    refine wp_bipush (pc := 20) (x := nI 48) dX9_figure_20 bp_48 ?_
    refine wp_isub (pc := 22) dX9_figure_22 ?_
    refine wp_i2l (pc := 23) dX9_figure_23 ?_
    refine wp_iload_n (pc := 24) dX9_figure_24 rfl ?_
    refine wp_i2l (pc := 25) dX9_figure_25 ?_
    refine wp_iload_n (pc := 26) dX9_figure_26 rfl ?_
    refine wp_i2l (pc := 27) dX9_figure_27 ?_
    refine wf_callSi (pc := 28) dX9_figure_28 cl_X9_72 (c_inR a b rfl rfl) rfl rfl (Nat.le_of_ble_eq_true rfl) (by decide) ⟨Nat.le_refl _, Nat.le_refl _⟩ (fun r28 M28 q28 => ?_)
    rw [q28.1, q28.2]
    refine wp_if_ne (pc := 31) 37 dX9_figure_31 (by decide) (fun h31 => ?_) (fun h31 => ?_)
    · have h31 := b2i_1 h31
      rw [fg_rg hb255 ha hb] at h31
      have h9 := of_decide_eq_true h31
      have h10 : fgN (byt T k) ≤ 9 := by omega
      refine wp_aload_n (pc := 37) dX9_figure_37 rfl ?_
      refine wp_dup (pc := 38) dX9_figure_38 rfl ?_
      refine wf_getI (pc := 39) dX9_figure_39 fl_X9_84 lk_150 ?_
      rw [h.1.2]
      refine wp_ic (pc := 42) (x := nI 1) dX9_figure_42 ic_1 ?_
      refine wp_iadd (pc := 43) dX9_figure_43 ?_
      refine wp_top (nI (k + 1)) (nI_1 _) ?_
      refine wf_putI (pc := 44) dX9_figure_44 fl_X9_84 lk_150 ?_
      refine wp_aload_n (pc := 47) dX9_figure_47 rfl ?_
      refine wf_getR (pc := 48) dX9_figure_48 fl_X9_7 lk_150 (hR 150 1 151 rfl) ?_
      refine wp_aload_n (pc := 51) dX9_figure_51 rfl ?_
      refine wf_getI (pc := 52) dX9_figure_52 fl_X9_84 lk_150 ?_
      rw [wI_at]
      refine wp_ic (pc := 55) (x := nI 1) dX9_figure_55 ic_1 ?_
      refine wp_isub (pc := 56) dX9_figure_56 ?_
      refine wp_top (nI k) (by rw [pk_sub (by omega), Nat.add_sub_cancel]) ?_
      refine wf_iald (pc := 57) (j := k) dX9_figure_57 lk_151 rfl (by omega) ?_
      rw [wI_na (by decide), (h.byte hk).2]
      refine wp_bipush (pc := 58) (x := nI 48) dX9_figure_58 bp_48 ?_
      refine wp_isub (pc := 60) dX9_figure_60 ?_
      rw [fg_val h10]
      refine wf_iret (pc := 61) dX9_figure_61 rfl ?_
      exact Or.inr ⟨hk, h31, h10, rfl, rfl⟩
    · have h31 := b2i_0 h31
      rw [fg_rg hb255 ha hb] at h31
      have hno : k < n → decide (a ≤ fgN (byt T k) ∧ fgN (byt T k) ≤ b) = false := fun _ => h31
      refine wp_bipush (pc := 34) (x := (-9)) dX9_figure_34 bp_m9 ?_
      refine wf_iret (pc := 36) dX9_figure_36 rfl ?_
      exact Or.inl ⟨rfl, rfl, hno⟩
theorem has_bit {a v : Nat} (ha : a < 16) (hv : v ≤ 9) : decide (bat (nI a) v = nI 1) = a.testBit v := by
  have e : ∀ a, a < 16 → ∀ v, v < 10 → decide (bat (nI a) v = nI 1) = a.testBit v := by decide +kernel
  exact e a ha v (by omega)
theorem bit_10 {a v : Nat} (ha : a < 16) (hv : 4 ≤ v) : a.testBit v = false := Nat.testBit_lt_two_pow (Nat.lt_of_lt_of_le ha (Nat.pow_le_pow_right (n := 2) (by decide) hv))
theorem c_one {l : Launch} {K : CtxT} {M : Mm} {T : Pg} {n k : Nat} (hR : RS M) (h : RT M T n k) {a : Nat} (ha : a < 16) : Ci l K 1 mX9_one [.ref (K.1 + 150), .int (nI a)] M (fun r M' => FgA M T n k (fun f => a.testBit f) r M') := by
  refine ci_of (L := [some (.ref (K.1 + 150)), some (.int (nI a)), none]) (by decide +kernel) (Nat.le_of_ble_eq_true rfl) rfl rfl (fun E => ?_)
  have hn := h.2.2.2.1
  have hkn := h.2.2.2.2
  refine wp_aload_n (pc := 0) dX9_one_0 rfl ?_
  refine wf_getI (pc := 1) dX9_one_1 fl_X9_84 lk_150 ?_
  rw [h.1.2]
  refine wp_aload_n (pc := 4) dX9_one_4 rfl ?_
  refine wf_getI (pc := 5) dX9_one_5 fl_X9_81 lk_150 ?_
  rw [h.1.1]
  refine wp_icmp_ge (pc := 8) 26 dX9_one_8 (by decide) (fun h8 => ?_) (fun h8 => ?_)
  · have ek : ¬ k < n := fun q => absurd h8 (nI_ge q (by omega))
    refine wp_bipush (pc := 26) (x := (-9)) dX9_one_26 bp_m9 ?_
    refine wp_istore_n (pc := 28) (L' := [_, _, _]) dX9_one_28 (Nat.le_of_ble_eq_true rfl) rfl rfl ?_
    refine wp_iload_n (pc := 29) dX9_one_29 rfl ?_
    refine wp_i2l (pc := 30) dX9_one_30 ?_
    refine wp_lconst (pc := 31) dX9_one_31 rfl ?_
    refine wp_ldc2 (pc := 32) dX9_one_32 kc_X9_87 ?_
    refine wf_callSi (pc := 35) dX9_one_35 cl_X9_72 (c_inR 0 9 rfl rfl) rfl rfl (Nat.le_of_ble_eq_true rfl) (by decide) ⟨Nat.le_refl _, Nat.le_refl _⟩ (fun r35 M35 q35 => ?_)
    rw [q35.1, q35.2]
    refine wp_if_eq (pc := 38) 49 dX9_one_38 (by decide) (fun h38 => ?_) (fun h38 => ?_)
    · have h38 := b2i_0 h38
      refine wp_bipush (pc := 49) (x := (-9)) dX9_one_49 bp_m9 ?_
      refine wf_iret (pc := 51) dX9_one_51 rfl ?_
      exact Or.inl ⟨rfl, rfl, fun q => absurd q ek⟩
    · exact absurd h38 (by decide)
  · have hk : k < n := by rcases Nat.lt_or_ge k n with q | q; exact q; exact absurd (nI_le q (by omega)) h8
    have hb255 := (h.byte hk).1
    refine wp_aload_n (pc := 11) dX9_one_11 rfl ?_
    refine wf_getR (pc := 12) dX9_one_12 fl_X9_7 lk_150 (hR 150 1 151 rfl) ?_
    refine wp_aload_n (pc := 15) dX9_one_15 rfl ?_
    refine wf_getI (pc := 16) dX9_one_16 fl_X9_84 lk_150 ?_
    rw [h.1.2]
    refine wf_iald (pc := 19) (j := k) dX9_one_19 lk_151 rfl (by omega) ?_
    rw [(h.byte hk).2]
    refine wp_bipush (pc := 20) (x := nI 48) dX9_one_20 bp_48 ?_
    refine wp_isub (pc := 22) dX9_one_22 ?_
    refine wp_goto (pc := 23) 28 dX9_one_23 (by decide) ?_
    refine wp_istore_n (pc := 28) (L' := [_, _, _]) dX9_one_28 (Nat.le_of_ble_eq_true rfl) rfl rfl ?_
    refine wp_iload_n (pc := 29) dX9_one_29 rfl ?_
    refine wp_i2l (pc := 30) dX9_one_30 ?_
    refine wp_lconst (pc := 31) dX9_one_31 rfl ?_
    refine wp_ldc2 (pc := 32) dX9_one_32 kc_X9_87 ?_
    refine wf_callSi (pc := 35) dX9_one_35 cl_X9_72 (c_inR 0 9 rfl rfl) rfl rfl (Nat.le_of_ble_eq_true rfl) (by decide) ⟨Nat.le_refl _, Nat.le_refl _⟩ (fun r35 M35 q35 => ?_)
    rw [q35.1, q35.2]
    refine wp_if_eq (pc := 38) 49 dX9_one_38 (by decide) (fun h38 => ?_) (fun h38 => ?_)
    · have h38 := b2i_0 h38
      rw [fg_rg hb255 (by decide) (by decide)] at h38
      have h9 := of_decide_eq_false h38
      have hno : a.testBit (fgN (byt T k)) = false := bit_10 ha (by omega)
      refine wp_bipush (pc := 49) (x := (-9)) dX9_one_49 bp_m9 ?_
      refine wf_iret (pc := 51) dX9_one_51 rfl ?_
      exact Or.inl ⟨rfl, rfl, fun _ => hno⟩
    · have h38 := b2i_1 h38
      rw [fg_rg hb255 (by decide) (by decide)] at h38
      have h9 := of_decide_eq_true h38
      have h10 : fgN (byt T k) ≤ 9 := h9.2
      refine wp_iload_n (pc := 41) dX9_one_41 rfl ?_
      refine wp_iload_n (pc := 42) dX9_one_42 rfl ?_
      rw [fg_val h10]
      refine wf_callSi (pc := 43) dX9_one_43 cl_X9_89 (c_has (x := nI a) (k := fgN (byt T k))) rfl rfl (Nat.le_of_ble_eq_true rfl) (by decide) ⟨Nat.le_refl _, Nat.le_refl _⟩ (fun r43 M43 q43 => ?_)
      rw [q43.1, q43.2]
      refine wp_if_ne (pc := 46) 52 dX9_one_46 (by decide) (fun h46 => ?_) (fun h46 => ?_)
      · have h46 := b2i_1 h46
        rw [has_bit ha h10] at h46
        refine wp_aload_n (pc := 52) dX9_one_52 rfl ?_
        refine wp_dup (pc := 53) dX9_one_53 rfl ?_
        refine wf_getI (pc := 54) dX9_one_54 fl_X9_84 lk_150 ?_
        rw [h.1.2]
        refine wp_ic (pc := 57) (x := nI 1) dX9_one_57 ic_1 ?_
        refine wp_iadd (pc := 58) dX9_one_58 ?_
        refine wp_top (nI (k + 1)) (nI_1 _) ?_
        refine wf_putI (pc := 59) dX9_one_59 fl_X9_84 lk_150 ?_
        refine wp_iload_n (pc := 62) dX9_one_62 rfl ?_
        refine wf_iret (pc := 63) dX9_one_63 rfl ?_
        exact Or.inr ⟨hk, h46, h10, rfl, rfl⟩
      · have h46 := b2i_0 h46
        rw [has_bit ha h10] at h46
        have hno : a.testBit (fgN (byt T k)) = false := h46
        refine wp_bipush (pc := 49) (x := (-9)) dX9_one_49 bp_m9 ?_
        refine wf_iret (pc := 51) dX9_one_51 rfl ?_
        exact Or.inl ⟨rfl, rfl, fun _ => hno⟩
