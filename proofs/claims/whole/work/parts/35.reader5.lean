theorem any_nI (x : Int32) : ∃ n, x = nI n := by
  refine ⟨x.toBitVec.toNat, ?_⟩
  apply Int32.toBitVec_inj.1
  show x.toBitVec = BitVec.ofNat 32 x.toBitVec.toNat
  simp
theorem map_some {α β : Type} {f : α → β} {o : Option α} {b : β} (h : o.map f = some b) : ∃ a, o = some a ∧ f a = b := by
  cases o with
  | none => cases h
  | some a => exact ⟨a, rfl, by simpa using h⟩
theorem pa_up {Λ Λ' : Lw} (h : PaOk Λ) (e1 : lD Λ' = lD Λ) (e2 : lPa Λ' = lPa Λ) : PaOk Λ' := fun d hd => by
  rw [e1] at hd ⊢
  rw [e2]
  exact h d hd
theorem tkH_ok {i f : Nat} {Λ Λ' : Lw} (hL : OkN Λ) (hp : PaOk Λ) (h : tkH i f Λ = some Λ') : OkN Λ' ∧ PaOk Λ' := by
  unfold tkH at h
  repeat' split at h
  all_goals first | (cases h; done) | (cases h; exact ⟨hL, hp⟩)
theorem tkD_ok {i f : Nat} {Λ : Lw} {P : Pg} {c : Lw × Pg} (hL : OkN Λ) (hp : PaOk Λ) (h : tkD i f Λ P = some c) : OkN c.1 ∧ PaOk c.1 := by
  unfold tkD at h
  split at h
  · cases h
  · rename_i n0
    have n0 : ¬ (f = 10 ∨ 4 ≤ lD Λ) := n0
    repeat' split at h
    all_goals first | (cases h; done) | (cases h; exact ⟨hL, hp⟩) | skip
    cases h
    refine ⟨⟨show lD Λ + 1 ≤ 4 by omega, hL.2.1, trivial⟩, ?_⟩
    intro d hd
    have hd : d < lD Λ + 1 := hd
    show upd (lPa Λ) (lD Λ) no9 d = no9 ∨ ∃ q, q < lD Λ + 1 ∧ upd (lPa Λ) (lD Λ) no9 d = nI q
    by_cases w : d = lD Λ
    · left; simp [upd, w]
    · simp only [upd, if_neg w]
      rcases hp d (by omega) with r | ⟨q, r1, r2⟩
      · exact Or.inl r
      · exact Or.inr ⟨q, by omega, r2⟩
theorem tkM_ok {i t : Nat} {Λ : Lw} {P : Pg} {c : Lw × Pg} (hL : OkN Λ) (hp : PaOk Λ) (h : tkM i t Λ P = some c) : OkN c.1 ∧ PaOk c.1 := by
  unfold tkM at h
  split at h
  · cases h
  · rename_i n0
    have n0 : ¬ 5 ≤ lM Λ := n0
    repeat' split at h
    all_goals first | (cases h; done) | (cases h; exact ⟨hL, hp⟩) | skip
    all_goals (cases h; exact ⟨⟨hL.1, show lM Λ + 1 ≤ 5 by omega, trivial⟩, hp⟩)
theorem tkP_ok {i f q : Nat} {Λ : Lw} {c : Nat × Lw} (hL : OkN Λ) (hp : PaOk Λ) (hq : i ≠ 1 → q < lD Λ) (h : tkP i f q Λ = some c) : OkN c.2 ∧ PaOk c.2 ∧ c.1 < lD c.2 := by
  unfold tkP at h
  split at h
  · cases h
  · rename_i n0
    have n0 : f < lD Λ := by omega
    split at h
    · cases h; exact ⟨hL, hp, n0⟩
    · rename_i n1
      split at h
      · cases h
        refine ⟨hL, ?_, hq n1⟩
        intro d hd
        show upd (lPa Λ) f (nI q) d = no9 ∨ ∃ r, r < lD Λ ∧ upd (lPa Λ) f (nI q) d = nI r
        by_cases w : d = f
        · right; exact ⟨q, hq n1, by simp [upd, w]⟩
        · simp only [upd, if_neg w]
          exact hp d hd
      · cases h
theorem OkR.go {p i n q : Nat} {Λ : Lw} {P : Pg} (hp : p = 68 ∨ p = 76 ∨ p = 77 ∨ p = 80) (hn : szN p = n) (hi : i < n) (h1 : OkN Λ) (h2 : PaOk Λ) (h3 : p = 80 → q < lD Λ) : OkR (if i + 1 = n then 1 else p, i + 1, q, Λ, P) := by
  subst hn
  refine ⟨h1, h2, ?_, ?_, ?_⟩
  · show (if i + 1 = szN p then 1 else p) = 0 ∨ (if i + 1 = szN p then 1 else p) = 1 ∨ (if i + 1 = szN p then 1 else p) = 68 ∨ (if i + 1 = szN p then 1 else p) = 76 ∨ (if i + 1 = szN p then 1 else p) = 77 ∨ (if i + 1 = szN p then 1 else p) = 80
    split <;> omega
  · show 1 < (if i + 1 = szN p then 1 else p) → 1 ≤ i + 1 ∧ i + 1 < szN (if i + 1 = szN p then 1 else p)
    split
    · intro w; exact absurd w (by decide)
    · intro _; exact ⟨by omega, by omega⟩
  · show (if i + 1 = szN p then 1 else p) = 80 → i + 1 ≠ 1 → q < lD Λ
    split
    · intro w; exact absurd w (by decide)
    · intro w _; exact h3 w
theorem OKS {σ σ' : Rs} {t : Nat} (h : OkR σ) (e : stp σ t = some σ') : OkR σ' := by
  obtain ⟨p, i, q, Λ, P⟩ := σ
  obtain ⟨hL, hp, hc, hi, hq⟩ := h
  have hL : OkN Λ := hL
  have hp : PaOk Λ := hp
  have hc : p = 0 ∨ p = 1 ∨ p = 68 ∨ p = 76 ∨ p = 77 ∨ p = 80 := hc
  have hi : 1 < p → 1 ≤ i ∧ i < szN p := hi
  have hq : p = 80 → i ≠ 1 → q < lD Λ := hq
  unfold stp at e
  dsimp only at e
  rcases hc with rfl | rfl | rfl | rfl | rfl | rfl
  · rw [if_pos rfl] at e
    split at e
    · cases e
      exact ⟨hL, hp, by simp, fun _ => ⟨Nat.le_refl _, show (1 : Nat) < szN 76 by decide⟩, fun w => absurd (show (76 : Nat) = 80 from w) (by decide)⟩
    · cases e
  · rw [if_neg (by decide), if_pos rfl] at e
    split at e
    · rename_i hm
      have hm : mayO Λ t = true := hm
      cases e
      have ht : t = 68 ∨ t = 77 ∨ t = 80 := by
        unfold mayO at hm
        repeat' split at hm
        all_goals first | omega | cases hm
      refine ⟨hL, hp, ?_, ?_, fun _ w => absurd rfl w⟩
      · show t = 0 ∨ t = 1 ∨ t = 68 ∨ t = 76 ∨ t = 77 ∨ t = 80
        omega
      · intro _
        refine ⟨Nat.le_refl _, ?_⟩
        show 1 < szN t
        rcases ht with rfl | rfl | rfl <;> decide
    · cases e
  · rw [if_neg (by decide), if_neg (by decide), if_pos rfl] at e
    obtain ⟨c, e1, e2⟩ := map_some e
    obtain ⟨c2, e3, e4⟩ := map_some e1
    obtain ⟨k1, k2⟩ := tkD_ok hL hp e3
    rw [← e2, ← e4]
    exact OkR.go (p := 68) (n := 4) (by omega) rfl (hi (by decide)).2 k1 k2 (fun w => absurd w (by decide))
  · rw [if_neg (by decide), if_neg (by decide), if_neg (by decide), if_pos rfl] at e
    obtain ⟨c, e1, e2⟩ := map_some e
    obtain ⟨c2, e3, e4⟩ := map_some e1
    obtain ⟨k1, k2⟩ := tkH_ok hL hp e3
    rw [← e2, ← e4]
    exact OkR.go (p := 76) (n := 7) (by omega) rfl (hi (by decide)).2 k1 k2 (fun w => absurd w (by decide))
  · rw [if_neg (by decide), if_neg (by decide), if_neg (by decide), if_neg (by decide), if_pos rfl] at e
    obtain ⟨c, e1, e2⟩ := map_some e
    obtain ⟨c2, e3, e4⟩ := map_some e1
    obtain ⟨k1, k2⟩ := tkM_ok hL hp e3
    rw [← e2, ← e4]
    exact OkR.go (p := 77) (n := 4) (by omega) rfl (hi (by decide)).2 k1 k2 (fun w => absurd w (by decide))
  · rw [if_neg (by decide), if_neg (by decide), if_neg (by decide), if_neg (by decide), if_neg (by decide)] at e
    obtain ⟨c, e1, e2⟩ := map_some e
    obtain ⟨c2, e3, e4⟩ := map_some e1
    obtain ⟨k1, k2, k3⟩ := tkP_ok hL hp (hq rfl) e3
    rw [← e2, ← e4]
    exact OkR.go (p := 80) (n := 3) (by omega) rfl (hi (by decide)).2 k1 k2 (fun _ => k3)
theorem c_clear {l : Launch} {K : CtxT} {M : Mm} (hR : RS M) : Cv l K 0 mX2_clear [.ref (K.1 + 3)] M (fun M' => M'.1 3 0 = nI 0 ∧ M'.1 3 1 = nI 0 ∧ M'.1 3 2 = nI 0 ∧ M'.1 3 3 = nI 0 ∧ Sm 3 4 M M') := by
  refine cv_of (L := [some (.ref (K.1 + 3))]) (by decide +kernel) (Nat.le_of_ble_eq_true rfl) rfl rfl (fun E => ?_)
  refine wp_aload_n (pc := 0) dX2_clear_0 rfl ?_
  refine wp_ic (pc := 1) (x := nI 0) dX2_clear_1 ic_0 ?_
  refine wf_putI (pc := 2) dX2_clear_2 fl_X2_9 IL_3.1 ?_
  refine wp_aload_n (pc := 5) dX2_clear_5 rfl ?_
  refine wp_ic (pc := 6) (x := nI 0) dX2_clear_6 ic_0 ?_
  refine wf_putI (pc := 7) dX2_clear_7 fl_X2_15 IL_3.1 ?_
  refine wp_aload_n (pc := 10) dX2_clear_10 rfl ?_
  refine wp_ic (pc := 11) (x := nI 0) dX2_clear_11 ic_0 ?_
  refine wf_putI (pc := 12) dX2_clear_12 fl_X2_18 IL_3.1 ?_
  refine wp_aload_n (pc := 15) dX2_clear_15 rfl ?_
  refine wp_ic (pc := 16) (x := nI 0) dX2_clear_16 ic_0 ?_
  refine wf_putI (pc := 17) dX2_clear_17 fl_X2_21 IL_3.1 ?_
  refine wf_vret (pc := 20) dX2_clear_20 rfl ?_
  exact ⟨by simp [wI], by simp [wI], by simp [wI], by simp [wI], (((Sm.w (by omega) (by omega)).tr (Sm.w (by omega) (by omega))).tr (Sm.w (by omega) (by omega))).tr (Sm.w (by omega) (by omega))⟩
theorem c_Law_become {l : Launch} {K : CtxT} {M : Mm} (hR : RS M) : Cv l K 1 mX2_become [.ref (K.1 + 14), .ref (K.1 + 3)] M (fun M' => (∀ k, k < 4 → M'.1 14 k = M.1 3 k) ∧ (∀ k, k < 4 → M'.1 15 k = M.1 4 k ∧ M'.1 16 k = M.1 5 k ∧ M'.1 17 k = M.1 6 k ∧ M'.1 18 k = M.1 7 k) ∧ Sm 14 19 M M') := by
  refine cv_of (L := [some (.ref (K.1 + 14)), some (.ref (K.1 + 3))]) (by decide +kernel) (Nat.le_of_ble_eq_true rfl) rfl rfl (fun E => ?_)
  refine wp_aload_n (pc := 0) dX2_become_0 rfl ?_
  refine wp_aload_n (pc := 1) dX2_become_1 rfl ?_
  refine wf_getI (pc := 2) dX2_become_2 fl_X2_9 IL_3.1 ?_
  refine wf_putI (pc := 5) dX2_become_5 fl_X2_9 IL_14.1 ?_
  refine wp_aload_n (pc := 8) dX2_become_8 rfl ?_
  refine wp_aload_n (pc := 9) dX2_become_9 rfl ?_
  refine wf_getI (pc := 10) dX2_become_10 fl_X2_15 IL_3.1 ?_
  refine wf_putI (pc := 13) dX2_become_13 fl_X2_15 IL_14.1 ?_
  refine wp_aload_n (pc := 16) dX2_become_16 rfl ?_
  refine wp_aload_n (pc := 17) dX2_become_17 rfl ?_
  refine wf_getI (pc := 18) dX2_become_18 fl_X2_18 IL_3.1 ?_
  refine wf_putI (pc := 21) dX2_become_21 fl_X2_18 IL_14.1 ?_
  refine wp_aload_n (pc := 24) dX2_become_24 rfl ?_
  refine wp_aload_n (pc := 25) dX2_become_25 rfl ?_
  refine wf_getI (pc := 26) dX2_become_26 fl_X2_21 IL_3.1 ?_
  refine wf_putI (pc := 29) dX2_become_29 fl_X2_21 IL_14.1 ?_
  refine wp_aload_n (pc := 32) dX2_become_32 rfl ?_
  refine wf_getR (pc := 33) dX2_become_33 fl_X2_24 IL_3.1 (hR 3 4 4 rfl) ?_
  refine wp_ic (pc := 36) (x := nI 0) dX2_become_36 ic_0 ?_
  refine wp_aload_n (pc := 37) dX2_become_37 rfl ?_
  refine wf_getR (pc := 38) dX2_become_38 fl_X2_24 IL_14.1 (hR 14 4 15 rfl) ?_
  refine wp_ic (pc := 41) (x := nI 0) dX2_become_41 ic_0 ?_
  refine wp_ic (pc := 42) (x := nI 4) dX2_become_42 ic_4 ?_
  refine wf_copy (pc := 43) dX2_become_43 ac_X2_37 IL_3.2.1 IL_14.2.1 (by decide) (by decide) (Nat.le_of_ble_eq_true rfl) (by decide) ?_
  refine wp_aload_n (pc := 46) dX2_become_46 rfl ?_
  refine wf_getR (pc := 47) dX2_become_47 fl_X2_28 IL_3.1 (hR 3 5 5 rfl) ?_
  refine wp_ic (pc := 50) (x := nI 0) dX2_become_50 ic_0 ?_
  refine wp_aload_n (pc := 51) dX2_become_51 rfl ?_
  refine wf_getR (pc := 52) dX2_become_52 fl_X2_28 IL_14.1 (hR 14 5 16 rfl) ?_
  refine wp_ic (pc := 55) (x := nI 0) dX2_become_55 ic_0 ?_
  refine wp_ic (pc := 56) (x := nI 4) dX2_become_56 ic_4 ?_
  refine wf_copy (pc := 57) dX2_become_57 ac_X2_37 IL_3.2.2.1 IL_14.2.2.1 (by decide) (by decide) (Nat.le_of_ble_eq_true rfl) (by decide) ?_
  refine wp_aload_n (pc := 60) dX2_become_60 rfl ?_
  refine wf_getR (pc := 61) dX2_become_61 fl_X2_31 IL_3.1 (hR 3 6 6 rfl) ?_
  refine wp_ic (pc := 64) (x := nI 0) dX2_become_64 ic_0 ?_
  refine wp_aload_n (pc := 65) dX2_become_65 rfl ?_
  refine wf_getR (pc := 66) dX2_become_66 fl_X2_31 IL_14.1 (hR 14 6 17 rfl) ?_
  refine wp_ic (pc := 69) (x := nI 0) dX2_become_69 ic_0 ?_
  refine wp_ic (pc := 70) (x := nI 4) dX2_become_70 ic_4 ?_
  refine wf_copy (pc := 71) dX2_become_71 ac_X2_37 IL_3.2.2.2.1 IL_14.2.2.2.1 (by decide) (by decide) (Nat.le_of_ble_eq_true rfl) (by decide) ?_
  refine wp_aload_n (pc := 74) dX2_become_74 rfl ?_
  refine wf_getR (pc := 75) dX2_become_75 fl_X2_34 IL_3.1 (hR 3 7 7 rfl) ?_
  refine wp_ic (pc := 78) (x := nI 0) dX2_become_78 ic_0 ?_
  refine wp_aload_n (pc := 79) dX2_become_79 rfl ?_
  refine wf_getR (pc := 80) dX2_become_80 fl_X2_34 IL_14.1 (hR 14 7 18 rfl) ?_
  refine wp_ic (pc := 83) (x := nI 0) dX2_become_83 ic_0 ?_
  refine wp_ic (pc := 84) (x := nI 4) dX2_become_84 ic_4 ?_
  refine wf_copy (pc := 85) dX2_become_85 ac_X2_37 IL_3.2.2.2.2 IL_14.2.2.2.2 (by decide) (by decide) (Nat.le_of_ble_eq_true rfl) (by decide) ?_
  refine wf_vret (pc := 88) dX2_become_88 rfl ?_
  refine ⟨fun k hk => ?_, fun k hk => ?_, ?_⟩
  · have : k = 0 ∨ k = 1 ∨ k = 2 ∨ k = 3 := by omega
    rcases this with rfl | rfl | rfl | rfl <;> simp [wI, wC]
  · have : k < 4 := hk
    simp [wI, wC, this]
  · refine Sm.tr (Sm.tr (Sm.tr (Sm.tr (Sm.tr (Sm.tr (Sm.tr (Sm.w ?_ ?_) (Sm.w ?_ ?_)) (Sm.w ?_ ?_)) (Sm.w ?_ ?_)) (Sm.c ?_ ?_)) (Sm.c ?_ ?_)) (Sm.c ?_ ?_)) (Sm.c ?_ ?_) <;> decide
theorem TkS.b {M M1 : Mm} {σ : Rs} {t : Nat} {r1 : Int32} (h : TkS M σ t r1 M1) : ∃ b, r1 = b2i b := by
  rcases h.2 with ⟨h, -⟩ | ⟨c, h, -⟩ <;> exact ⟨_, h⟩
theorem XR_become {M M' : Mm} {p i q : Nat} {Λ : Lw} {P : Pg} (h : XR M p i q Λ P) (hL : OkN Λ) (h1 : ∀ k, k < 4 → M'.1 14 k = M.1 3 k) (h2 : ∀ k, k < 4 → M'.1 15 k = M.1 4 k ∧ M'.1 16 k = M.1 5 k ∧ M'.1 17 k = M.1 6 k ∧ M'.1 18 k = M.1 7 k) : XL M' 14 Λ := by
  obtain ⟨g1, g2, g3, g4, g5, g6⟩ := h.XL hL
  have hD := hL.1
  refine ⟨(h1 0 (by decide)).trans g1, (h1 1 (by decide)).trans g2, (h1 2 (by decide)).trans g3, fun m hm => by rw [h1 3 (by decide)]; exact g4 m hm, fun i hi => ((h2 i hi).1).trans (g5 i hi), fun d hd => ?_⟩
  have hh := h2 d (by omega)
  exact ⟨hh.2.1.trans (g6 d hd).1, hh.2.2.1.trans (g6 d hd).2.1, hh.2.2.2.trans (g6 d hd).2.2⟩
/-- the reader's state behind the first k bytes -/
def rnS (σ : Rs) (T : Pg) : Nat → Option Rs
  | 0 => some σ
  | k + 1 => (rnS σ T k).bind (fun s => stp s (T k).toNatClampNeg)
/-- the reader's state ahead of all: no dogs, no men -/
def St0 (M : Mm) (σ : Rs) : Prop := σ.1 = 0 ∧ lD σ.2.2.2.1 = 0 ∧ lM σ.2.2.2.1 = 0 ∧ lLe σ.2.2.2.1 = nI 0 ∧ (∀ d, d < 4 → σ.2.2.2.2 (4 + d) = M.1 10 d) ∧ (∀ m, m < 5 → σ.2.2.2.2 (19 + m) = M.1 13 m) ∧ σ.2.2.2.2 24 = M.1 8 0 ∧ σ.2.2.2.2 18 = M.1 8 1
def pg0 (M : Mm) : Pg := fun j => if j < 4 then M.1 9 j else if j < 8 then M.1 10 (j - 4) else if j < 13 then M.1 11 (j - 8) else if j < 18 then M.1 12 (j - 13) else if j = 18 then M.1 8 1 else if j < 24 then M.1 13 (j - 19) else M.1 8 0
theorem pg0_ok (M : Mm) : XT M 8 lw45 (pg0 M) := by
  refine ⟨by simp [pg0], by simp [pg0], fun d hd => ?_, fun m hm => ?_⟩
  · have hd : d < 4 := hd
    refine ⟨by simp [pg0, hd], ?_⟩
    simp [pg0, show ¬ 4 + d < 4 by omega, show 4 + d < 8 by omega]
  · have hm : m < 5 := hm
    refine ⟨?_, ?_, ?_⟩
    · simp [pg0, show ¬ 8 + m < 4 by omega, show ¬ 8 + m < 8 by omega, show 8 + m < 13 by omega]
    · simp [pg0, show ¬ 13 + m < 4 by omega, show ¬ 13 + m < 8 by omega, show ¬ 13 + m < 13 by omega, show 13 + m < 18 by omega]
    · simp [pg0, show ¬ 19 + m < 4 by omega, show ¬ 19 + m < 8 by omega, show ¬ 19 + m < 13 by omega, show ¬ 19 + m < 18 by omega, show ¬ 19 + m = 18 by omega, show 19 + m < 24 by omega]
/-- what the reader answers -/
def RdA (M : Mm) (T : Pg) (n : Nat) (r : Int32) (M' : Mm) : Prop := ∃ σ0, St0 M σ0 ∧ ((∃ k σ, k < n ∧ rnS σ0 T k = some σ ∧ stp σ (T k).toNatClampNeg = none ∧ r = nI k) ∨ (∃ σ, rnS σ0 T n = some σ ∧ OkR σ ∧ XR M' σ.1 σ.2.1 σ.2.2.1 σ.2.2.2.1 σ.2.2.2.2 ∧ r = if σ.1 = 1 then no9 else nI n))
theorem c_firstFault {l : Launch} {K : CtxT} {M : Mm} {n : Nat} {T : Pg} (hR : RS M) (hn : n ≤ 60) (hx : ∀ k, k < n → M.1 1 k = T k) (hT : ∀ k, k < n → ∃ t, t ≤ 255 ∧ T k = nI t) : Ci l K 5 mX3_firstFault [.ref (K.1 + 2), .ref (K.1 + 1), .int (nI n)] M (fun r M' => Sz M M' ∧ RdA M T n r M') := by
  refine ci_of (L := [some (.ref (K.1 + 2)), some (.ref (K.1 + 1)), some (.int (nI n)), none]) (by decide +kernel) (Nat.le_of_ble_eq_true rfl) rfl rfl (fun E => ?_)
  have loop : ∀ (n' k : Nat) (M1 : Mm) (σ0 σ : Rs), n' = n - k → k ≤ n → St0 M σ0 → rnS σ0 T k = some σ → OkR σ → Sz M M1 → XR M1 σ.1 σ.2.1 σ.2.2.1 σ.2.2.2.1 σ.2.2.2.2 → Wp E K mX3_firstFault 5 (0, 0) 14 [some (.ref (K.1 + 2)), some (.ref (K.1 + 1)), some (.int (nI n)), some (.int (nI k))] [] 168 M1 0 0 (zI E K (fun r M' => Sz M M' ∧ RdA M T n r M')) := by
    intro n'
    induction n' with
    | zero =>
      intro k M1 σ0 σ hn' hk h0 hr hO s1 hX
      refine wp_iload_n (pc := 14) dX3_firstFault_14 rfl ?_
      refine wp_iload_n (pc := 15) dX3_firstFault_15 rfl ?_
      refine wp_icmp_ge (pc := 16) 43 dX3_firstFault_16 (by decide) (fun h16 => ?_) (fun h16 => ?_)
      · have e : k = n := by omega
        subst e
        refine wp_aload_n (pc := 43) dX3_firstFault_43 rfl ?_
        refine wf_getI (pc := 44) dX3_firstFault_44 fl_X3_25 lk_2 ?_
        rw [hX.1.1]
        refine wp_ic (pc := 47) (x := nI 1) dX3_firstFault_47 ic_1 ?_
        refine wp_icmp_ne (pc := 48) 56 dX3_firstFault_48 (by decide) (fun h48 => ?_) (fun h48 => ?_)
        · have e5 : ¬ σ.1 = 1 := fun q => h48 (by rw [q])
          refine wp_iload_n (pc := 56) dX3_firstFault_56 rfl ?_
          refine wf_iret (pc := 57) dX3_firstFault_57 rfl ?_
          refine ⟨s1, σ0, h0, Or.inr ⟨σ, hr, hO, hX, ?_⟩⟩
          first | rw [if_pos e5] | rw [if_neg e5]
        · have e5 : σ.1 = 1 := (nI_eq (by rcases hO.2.2.1 with q | q | q | q | q | q <;> omega) (by decide)).mp h48
          refine wp_bipush (pc := 51) (x := (-9)) dX3_firstFault_51 bp_m9 ?_
          refine wp_goto (pc := 53) 57 dX3_firstFault_53 (by decide) ?_
          refine wf_iret (pc := 57) dX3_firstFault_57 rfl ?_
          refine ⟨s1, σ0, h0, Or.inr ⟨σ, hr, hO, hX, ?_⟩⟩
          first | rw [if_pos e5] | rw [if_neg e5]
      · exact absurd (nI_le (by omega) (by omega)) h16
    | succ n' ih =>
      intro k M1 σ0 σ hn' hk h0 hr hO s1 hX
      obtain ⟨t, ht, et⟩ := hT k (by omega)
      refine wp_iload_n (pc := 14) dX3_firstFault_14 rfl ?_
      refine wp_iload_n (pc := 15) dX3_firstFault_15 rfl ?_
      refine wp_icmp_ge (pc := 16) 43 dX3_firstFault_16 (by decide) (fun h16 => ?_) (fun h16 => ?_)
      · exact absurd h16 (nI_ge (by omega) (by omega))
      · refine wp_iload_n (pc := 19) dX3_firstFault_19 rfl ?_
        refine wp_aload_n (pc := 20) dX3_firstFault_20 rfl ?_
        refine wf_alen (pc := 21) dX3_firstFault_21 lk_1 ?_
        refine wp_icmp_ge (pc := 22) 43 dX3_firstFault_22 (by decide) (fun h22 => ?_) (fun h22 => ?_)
        · exact absurd h22 (nI_ge (show k < 60 by omega) (by omega))
        · refine wp_aload_n (pc := 25) dX3_firstFault_25 rfl ?_
          refine wp_aload_n (pc := 26) dX3_firstFault_26 rfl ?_
          refine wp_iload_n (pc := 27) dX3_firstFault_27 rfl ?_
          refine wf_iald (pc := 28) (j := k) dX3_firstFault_28 lk_1 rfl (by omega) ?_
          rw [show M1.1 1 k = nI t from (s1.2 1 (by omega) k).trans ((hx k (by omega)).trans et)]
          refine wf_callVi (pc := 29) dX3_firstFault_29 cl_X3_38 (c_takes (s1.rs hR) hX hO ht) lk_2 rfl rfl rfl rfl (Nat.le_of_ble_eq_true rfl) (by decide) ⟨Nat.le_refl _, Nat.le_refl _⟩ (fun r29 M29 q29 => ?_)
          obtain ⟨b, hb29⟩ := q29.b
          subst hb29
          refine wp_if_ne (pc := 32) 37 dX3_firstFault_32 (by decide) (fun h32 => ?_) (fun h32 => ?_)
          · have h32 := b2i_1 h32
            rcases q29.2 with ⟨e, -⟩ | ⟨σ1, -, e2, e3⟩
            · rw [h32] at e; exact absurd e (by decide)
            refine wp_iinc1 (pc := 37) (L' := [_, _, _, _]) dX3_firstFault_37 rfl rfl rfl ?_
            refine wp_goto (pc := 40) 14 dX3_firstFault_40 (by decide) ?_
            exact ih (k + 1) M29 σ0 σ1 (by omega) (by omega) h0 (by show (rnS σ0 T k).bind _ = _; rw [hr]; show stp σ (T k).toNatClampNeg = _; rw [et, nI_cl (by omega)]; exact e2) (OKS hO e2) (s1.tr q29.1) e3
          · have h32 := b2i_0 h32
            rcases q29.2 with ⟨-, e⟩ | ⟨σ1, e, -⟩
            case inr => rw [h32] at e; exact absurd e (by decide)
            refine wp_iload_n (pc := 35) dX3_firstFault_35 rfl ?_
            refine wf_iret (pc := 36) dX3_firstFault_36 rfl ?_
            refine ⟨s1.tr q29.1, σ0, h0, Or.inl ⟨k, σ, by omega, hr, ?_, rfl⟩⟩
            rw [et, nI_cl (by omega)]; exact e
  refine wp_aload_n (pc := 0) dX3_firstFault_0 rfl ?_
  refine wf_getR (pc := 1) dX3_firstFault_1 fl_X3_12 lk_2 (hR 2 0 3 rfl) ?_
  refine wf_callVv (pc := 4) dX3_firstFault_4 cl_X3_35 (c_clear hR) IL_3.1 rfl rfl rfl rfl (Nat.le_of_ble_eq_true rfl) (by decide) ⟨Nat.le_refl _, Nat.le_refl _⟩ (fun M4 q4 => ?_)
  refine wp_aload_n (pc := 7) dX3_firstFault_7 rfl ?_
  refine wp_ic (pc := 8) (x := nI 0) dX3_firstFault_8 ic_0 ?_
  refine wf_putI (pc := 9) dX3_firstFault_9 fl_X3_25 lk_2 ?_
  refine wp_ic (pc := 12) (x := nI 0) dX3_firstFault_12 ic_0 ?_
  refine wp_istore_n (pc := 13) (L' := [_, _, _, _]) dX3_firstFault_13 (Nat.le_of_ble_eq_true rfl) rfl rfl ?_
  obtain ⟨c0, c1, c2, c3, cs⟩ := q4
  obtain ⟨a, ea⟩ := any_nI (M4.1 2 3)
  obtain ⟨b, eb⟩ := any_nI (M4.1 2 4)
  have z1 : Sz M (wI M4 2 2 (nI 0)) := Sz.tr ⟨cs.1, fun a ha k => cs.2 a (by omega) k⟩ (Sz.w (by decide))
  have hX : XR (wI M4 2 2 (nI 0)) 0 a b (0, 0, nI 0, M4.1 4, M4.1 5, M4.1 6, M4.1 7, fun _ => 0) (pg0 M4) := ⟨⟨wI_at _ _ _ _, (wI_nk (by decide)).trans ea, (wI_nk (by decide)).trans eb⟩, ⟨c0, c1, c2⟩, ⟨0, c3, show (0 : Nat) < 2 ^ 0 by decide, fun m hm => absurd hm (Nat.not_lt_zero _)⟩, ⟨fun _ _ => rfl, fun _ _ => rfl, fun _ _ => rfl, fun _ _ => rfl⟩, (pg0_ok M4).sm (lo := 2) (hi := 3) (Sm.w (by omega) (by omega)) (by omega)⟩
  obtain ⟨p1, p2, p3, p4⟩ := pg0_ok M4
  refine loop n 0 _ (0, a, b, (0, 0, nI 0, M4.1 4, M4.1 5, M4.1 6, M4.1 7, fun _ => 0), pg0 M4) _ (by omega) (by omega) ⟨rfl, rfl, rfl, rfl, fun d hd => ?_, fun m hm => ?_, ?_, ?_⟩ rfl ⟨⟨show (0 : Nat) ≤ 4 by decide, show (0 : Nat) ≤ 5 by decide, trivial⟩, fun d hd => absurd hd (Nat.not_lt_zero _), Or.inl rfl, fun w => absurd (show (1 : Nat) < 0 from w) (by decide), fun w => absurd (show (0 : Nat) = 80 from w) (by decide)⟩ z1 hX
  · exact (p3 d hd).2.symm.trans (cs.2 10 (by omega) d)
  · exact (p4 m hm).2.2.symm.trans (cs.2 13 (by omega) m)
  · exact p1.symm.trans (cs.2 8 (by omega) 0)
  · exact p2.symm.trans (cs.2 8 (by omega) 1)
