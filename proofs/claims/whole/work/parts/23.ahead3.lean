/-! the streets on which a dog can have been -/
theorem and_one {y : Int32} : y &&& nI 1 = nI 1 ↔ bt y 0 = true := by
  have h1 : ∀ i, i < 32 → bt (nI 1) i = decide (i = 0) := by decide +kernel
  constructor
  · intro h
    have := congrArg (fun z => bt z 0) h
    simp only [b_and, h1 0 (by decide)] at this
    simpa using this
  · intro h
    apply b_ext
    intro i hi
    rw [b_and, h1 i hi]
    by_cases e : i = 0
    · subst e; simp [h]
    · simp [e]
theorem bat_bt {x : Int32} {i : Nat} (hi : i < 32) : bat x i = nI 1 ↔ bt x i = true := by
  show (x >>> (nI i &&& 31)) &&& nI 1 = nI 1 ↔ _
  rw [and_one, b_sshr i hi x (by decide), Nat.add_zero, if_pos hi]
theorem bt_bit : ∀ k, k < 32 → ∀ T, T < 32 → bt (bit k) T = decide (T = k) := by decide +kernel
theorem bit_pow {m : Nat} (hm : m < 5) : nI 1 <<< (nI m &&& 31) = nI (2 ^ m) := by
  have e : ∀ m, m < 5 → nI 1 <<< (nI m &&& 31) = nI (2 ^ m) := by decide +kernel
  exact e m hm
theorem or32 {S s : Nat} (hS : S < 32) (hs : s < 5) : S ||| 2 ^ s < 32 := Nat.or_lt_two_pow (n := 5) hS (Nat.pow_lt_pow_right (by decide) (by omega))
theorem pow32 {s : Nat} (hs : s < 5) : 2 ^ s < 32 := Nat.pow_lt_pow_right (n := 5) (by decide) hs
theorem ex_no {A B : Prop} {X : Nat → Prop} {v : Nat} (h : A ↔ B ∨ ∃ w, w < v ∧ X w) (hx : ¬ X v) : A ↔ B ∨ ∃ w, w < v + 1 ∧ X w := by
  rw [h]
  constructor
  · rintro (q | ⟨w, h1, h2⟩)
    · exact Or.inl q
    · exact Or.inr ⟨w, by omega, h2⟩
  · rintro (q | ⟨w, h1, h2⟩)
    · exact Or.inl q
    · rcases Nat.lt_succ_iff_lt_or_eq.mp h1 with q | rfl
      · exact Or.inr ⟨w, q, h2⟩
      · exact absurd h2 hx
theorem ex_yes {A B : Prop} {X : Nat → Prop} {v : Nat} (h : A ↔ B ∨ ∃ w, w < v ∧ X w) : A ∨ X v ↔ B ∨ ∃ w, w < v + 1 ∧ X w := by
  rw [h]
  constructor
  · rintro ((q | ⟨w, h1, h2⟩) | q)
    · exact Or.inl q
    · exact Or.inr ⟨w, by omega, h2⟩
    · exact Or.inr ⟨v, by omega, q⟩
  · rintro (q | ⟨w, h1, h2⟩)
    · exact Or.inl (Or.inl q)
    · rcases Nat.lt_succ_iff_lt_or_eq.mp h1 with q | rfl
      · exact Or.inl (Or.inr ⟨w, q, h2⟩)
      · exact Or.inr h2
theorem ex_0 {A B : Prop} {X : Nat → Prop} (h : A ↔ B) : A ↔ B ∨ ∃ w, w < 0 ∧ X w := by
  rw [h]
  constructor
  · exact Or.inl
  · rintro (q | ⟨w, h1, h2⟩)
    · exact q
    · exact absurd h1 (by omega)
def XH (M : Mm) (re rn : Nat) : Prop := M.2.2 131 2 = some re ∧ M.2.2 131 3 = some rn ∧ ((re = 142 ∧ rn = 143) ∨ (re = 143 ∧ rn = 142))
theorem lk_re {re rn : Nat} (h : (re = 142 ∧ rn = 143) ∨ (re = 143 ∧ rn = 142)) : lk re = (9, 5) ∧ lk rn = (9, 5) := by
  rcases h with ⟨rfl, rfl⟩ | ⟨rfl, rfl⟩
  · exact ⟨lk_142, lk_143⟩
  · exact ⟨lk_143, lk_142⟩
theorem XH.sm {M M' : Mm} {lo hi re rn : Nat} (h : XH M re rn) (s : Sm lo hi M M') : XH M' re rn := by
  unfold XH
  rw [s.1]
  exact h
def rchP (pe : Nat → Int32) (f : Nat) : Nat → Nat → Nat → Prop
  | 0, s, S => s = f ∧ S = 2 ^ f
  | k + 1, s, T => ∃ s0 w S, s0 < 5 ∧ w < 3 ∧ s = stN s0 w ∧ ¬ nI s = pe k ∧ S < 32 ∧ rchP pe f k s0 S ∧ T = S ||| 2 ^ s
theorem c_withStreet {l : Launch} {K : CtxT} {M : Mm} {x : Int32} {s : Nat} (hs : s < 5) : Ci l K 0 mX1_withStreet [.int x, .int (nI s)] M (fun rv M' => (∀ T, T < 32 → (bt rv T = true ↔ False ∨ ∃ S, S < 32 ∧ (bt x S = true ∧ T = S ||| 2 ^ s))) ∧ M' = M) := by
  refine ci_of (L := [some (.int x), some (.int (nI s)), none, none]) (by decide +kernel) (Nat.le_of_ble_eq_true rfl) rfl rfl (fun E => ?_)
  have loop : ∀ (n i : Nat) (v : Int32), n = 32 - i → i ≤ 32 → (∀ T, T < 32 → (bt v T = true ↔ False ∨ ∃ S, S < i ∧ (bt x S = true ∧ T = S ||| 2 ^ s))) → Wp E K mX1_withStreet 0 (0, 0) 4 [some (.int x), some (.int (nI s)), some (.int v), some (.int (nI i))] [] 168 M 0 0 (zI E K (fun rv M' => (∀ T, T < 32 → (bt rv T = true ↔ False ∨ ∃ S, S < 32 ∧ (bt x S = true ∧ T = S ||| 2 ^ s))) ∧ M' = M)) := by
    intro n
    induction n with
    | zero =>
      intro i v hn hi hv
      refine wp_iload_n (pc := 4) dX1_withStreet_4 rfl ?_
      refine wp_bipush (pc := 5) (x := nI 31) dX1_withStreet_5 bp_31 ?_
      refine wp_icmp_gt (pc := 7) 35 dX1_withStreet_7 (by decide) (fun h7 => ?_) (fun h7 => ?_)
      · have e : i = 32 := by omega
        subst e
        refine wp_iload_n (pc := 35) dX1_withStreet_35 rfl ?_
        refine wf_iret (pc := 36) dX1_withStreet_36 rfl ?_
        exact ⟨hv, rfl⟩
      · exact absurd (nI_lt (show 31 < i by omega) (by omega)) h7
    | succ n ih =>
      intro i v hn hi hv
      refine wp_iload_n (pc := 4) dX1_withStreet_4 rfl ?_
      refine wp_bipush (pc := 5) (x := nI 31) dX1_withStreet_5 bp_31 ?_
      refine wp_icmp_gt (pc := 7) 35 dX1_withStreet_7 (by decide) (fun h7 => ?_) (fun h7 => ?_)
      · exact absurd h7 (nI_nlt (show i ≤ 31 by omega) (by omega))
      · refine wp_iload_n (pc := 10) dX1_withStreet_10 rfl ?_
        refine wp_iload_n (pc := 11) dX1_withStreet_11 rfl ?_
        refine wp_ishr (pc := 12) dX1_withStreet_12 ?_
        refine wp_ic (pc := 13) (x := nI 1) dX1_withStreet_13 ic_1 ?_
        refine wp_iand (pc := 14) dX1_withStreet_14 ?_
        refine wp_ic (pc := 15) (x := nI 1) dX1_withStreet_15 ic_1 ?_
        refine wp_icmp_ne (pc := 16) 29 dX1_withStreet_16 (by decide) (fun h16 => ?_) (fun h16 => ?_)
        · have h16 : ¬ bt x i = true := fun q => h16 ((bat_bt (by omega)).mpr q)
          refine wp_iinc1 (pc := 29) (L' := [_, _, _, _]) dX1_withStreet_29 rfl rfl rfl ?_
          refine wp_goto (pc := 32) 4 dX1_withStreet_32 (by decide) ?_
          refine ih (i + 1) _ (by omega) (by omega) (fun T hT => ?_)
          first | (exact ex_no (hv T hT) (fun q => h16 q.1); done) | (rw [b_or, Bool.or_eq_true, bt_bit _ (or32 (by omega) hs) T hT, decide_eq_true_eq]; exact (or_congr_right (by simp [h16])).trans (ex_yes (hv T hT)))
        · have h16 : bt x i = true := (bat_bt (by omega)).mp h16
          refine wp_iload_n (pc := 19) dX1_withStreet_19 rfl ?_
          refine wp_ic (pc := 20) (x := nI 1) dX1_withStreet_20 ic_1 ?_
          refine wp_iload_n (pc := 21) dX1_withStreet_21 rfl ?_
          refine wp_ic (pc := 22) (x := nI 1) dX1_withStreet_22 ic_1 ?_
          refine wp_iload_n (pc := 23) dX1_withStreet_23 rfl ?_
          refine wp_ishl (pc := 24) dX1_withStreet_24 ?_
          refine wp_ior (pc := 25) dX1_withStreet_25 ?_
          rw [or_bit hs]
          refine wp_ishl (pc := 26) dX1_withStreet_26 ?_
          refine wp_ior (pc := 27) dX1_withStreet_27 ?_
          refine wp_istore_n (pc := 28) (L' := [_, _, _, _]) dX1_withStreet_28 (Nat.le_of_ble_eq_true rfl) rfl rfl ?_
          refine wp_iinc1 (pc := 29) (L' := [_, _, _, _]) dX1_withStreet_29 rfl rfl rfl ?_
          refine wp_goto (pc := 32) 4 dX1_withStreet_32 (by decide) ?_
          refine ih (i + 1) _ (by omega) (by omega) (fun T hT => ?_)
          first | (exact ex_no (hv T hT) (fun q => h16 q.1); done) | (rw [b_or, Bool.or_eq_true, bt_bit _ (or32 (by omega) hs) T hT, decide_eq_true_eq]; exact (or_congr_right (by simp [h16])).trans (ex_yes (hv T hT)))
  refine wp_ic (pc := 0) (x := nI 0) dX1_withStreet_0 ic_0 ?_
  refine wp_istore_n (pc := 1) (L' := [_, _, _, _]) dX1_withStreet_1 (Nat.le_of_ble_eq_true rfl) rfl rfl ?_
  refine wp_ic (pc := 2) (x := nI 0) dX1_withStreet_2 ic_0 ?_
  refine wp_istore_n (pc := 3) (L' := [_, _, _, _]) dX1_withStreet_3 (Nat.le_of_ble_eq_true rfl) rfl rfl ?_
  exact loop 32 0 (nI 0) (by omega) (by omega) (fun T hT => ex_0 (by rw [show nI 0 = 0 from rfl, b_0]; simp))
theorem c_clearNext {l : Launch} {K : CtxT} {M : Mm} {re rn : Nat} (hh : (re = 142 ∧ rn = 143) ∨ (re = 143 ∧ rn = 142)) (h2 : M.2.2 131 2 = some re) (h3 : M.2.2 131 3 = some rn) : Cv l K 0 mX1_clearNext [.ref (K.1 + 131)] M (fun M' => Sm rn (rn + 1) M M' ∧ ∀ s, s < 5 → M'.1 rn s = nI 0) := by
  refine cv_of (L := [some (.ref (K.1 + 131)), none]) (by decide +kernel) (Nat.le_of_ble_eq_true rfl) rfl rfl (fun E => ?_)
  have loop : ∀ (n i : Nat) (M1 : Mm), n = 5 - i → i ≤ 5 → Sm rn (rn + 1) M M1 → (∀ s, s < i → M1.1 rn s = nI 0) → Wp E K mX1_clearNext 0 (0, 0) 2 [some (.ref (K.1 + 131)), some (.int (nI i))] [] 168 M1 0 0 (zV E K (fun M' => Sm rn (rn + 1) M M' ∧ ∀ s, s < 5 → M'.1 rn s = nI 0)) := by
    intro n
    induction n with
    | zero =>
      intro i M1 hn hi s1 hd
      refine wp_iload_n (pc := 2) dX1_clearNext_2 rfl ?_
      refine wp_ic (pc := 3) (x := nI 5) dX1_clearNext_3 ic_5 ?_
      refine wp_icmp_ge (pc := 4) 20 dX1_clearNext_4 (by decide) (fun h4 => ?_) (fun h4 => ?_)
      · have e : i = 5 := by omega
        subst e
        refine wf_vret (pc := 20) dX1_clearNext_20 rfl ?_
        exact ⟨s1, hd⟩
      · exact absurd (nI_le (by omega) (by omega)) h4
    | succ n ih =>
      intro i M1 hn hi s1 hd
      refine wp_iload_n (pc := 2) dX1_clearNext_2 rfl ?_
      refine wp_ic (pc := 3) (x := nI 5) dX1_clearNext_3 ic_5 ?_
      refine wp_icmp_ge (pc := 4) 20 dX1_clearNext_4 (by decide) (fun h4 => ?_) (fun h4 => ?_)
      · exact absurd h4 (nI_ge (by omega) (by omega))
      · refine wp_aload_n (pc := 7) dX1_clearNext_7 rfl ?_
        refine wf_getR (pc := 8) dX1_clearNext_8 fl_X1_23 lk_131 (by rw [s1.1]; exact h3) ?_
        refine wp_iload_n (pc := 11) dX1_clearNext_11 rfl ?_
        refine wp_ic (pc := 12) (x := nI 0) dX1_clearNext_12 ic_0 ?_
        refine wf_iast (pc := 13) (j := i) dX1_clearNext_13 (lk_re hh).2 rfl (by omega) ?_
        refine wp_iinc1 (pc := 14) (L' := [_, _]) dX1_clearNext_14 rfl rfl rfl ?_
        refine wp_goto (pc := 17) 2 dX1_clearNext_17 (by decide) ?_
        refine ih (i + 1) _ (by omega) (by omega) (s1.tr (Sm.w (by omega) (by omega))) (fun s hs => ?_)
        rcases Nat.lt_succ_iff_lt_or_eq.mp hs with q | rfl
        · rw [wI_nk (by omega)]; exact hd s q
        · exact wI_at _ _ _ _
  refine wp_ic (pc := 0) (x := nI 0) dX1_clearNext_0 ic_0 ?_
  refine wp_istore_n (pc := 1) (L' := [_, _]) dX1_clearNext_1 (Nat.le_of_ble_eq_true rfl) rfl rfl ?_
  exact loop 5 0 M (by omega) (by omega) Sm.rf (fun s hs => absurd hs (by omega))
theorem c_swap {l : Launch} {K : CtxT} {M : Mm} {re rn : Nat} (hh : (re = 142 ∧ rn = 143) ∨ (re = 143 ∧ rn = 142)) (h2 : M.2.2 131 2 = some re) (h3 : M.2.2 131 3 = some rn) : Cv l K 0 mX1_swap [.ref (K.1 + 131)] M (fun M' => M' = wR (wR M 131 2 (some rn)) 131 3 (some re)) := by
  refine cv_of (L := [some (.ref (K.1 + 131)), none]) (by decide +kernel) (Nat.le_of_ble_eq_true rfl) rfl rfl (fun E => ?_)
  refine wp_aload_n (pc := 0) dX1_swap_0 rfl ?_
  refine wf_getR (pc := 1) dX1_swap_1 fl_X1_20 lk_131 h2 ?_
  refine wp_astore_n (pc := 4) (L' := [_, _]) dX1_swap_4 (Nat.le_of_ble_eq_true rfl) rfl rfl ?_
  refine wp_aload_n (pc := 5) dX1_swap_5 rfl ?_
  refine wp_aload_n (pc := 6) dX1_swap_6 rfl ?_
  refine wf_getR (pc := 7) dX1_swap_7 fl_X1_23 lk_131 h3 ?_
  refine wf_putR (pc := 10) dX1_swap_10 fl_X1_20 lk_131 ?_
  refine wp_aload_n (pc := 13) dX1_swap_13 rfl ?_
  refine wp_aload_n (pc := 14) dX1_swap_14 rfl ?_
  refine wf_putR (pc := 15) dX1_swap_15 fl_X1_23 lk_131 ?_
  refine wf_vret (pc := 18) dX1_swap_18 rfl ?_
  rfl
theorem c_allReached {l : Launch} {K : CtxT} {M : Mm} {re rn : Nat} (hh : (re = 142 ∧ rn = 143) ∨ (re = 143 ∧ rn = 142)) (h2 : M.2.2 131 2 = some re) (h3 : M.2.2 131 3 = some rn) : Ci l K 0 mX1_allReached [.ref (K.1 + 131)] M (fun rv M' => rv = b2i (anyN 5 (fun s => bt (M.1 rn s) 31)) ∧ M' = M) := by
  refine ci_of (L := [some (.ref (K.1 + 131)), none]) (by decide +kernel) (Nat.le_of_ble_eq_true rfl) rfl rfl (fun E => ?_)
  have loop : ∀ (n i : Nat), n = 5 - i → i ≤ 5 →  (∀ o, o < i → (fun s => bt (M.1 rn s) 31) o = false) → Wp E K mX1_allReached 0 (0, 0) 2 [some (.ref (K.1 + 131)), some (.int (nI i))] [] 168 M 0 0 (zI E K (fun rv M' => rv = b2i (anyN 5 (fun s => bt (M.1 rn s) 31)) ∧ M' = M)) := by
    intro n
    induction n with
    | zero =>
      intro i hn hm hf
      refine wp_iload_n (pc := 2) dX1_allReached_2 rfl ?_
      refine wp_ic (pc := 3) (x := nI 5) dX1_allReached_3 ic_5 ?_
      refine wp_icmp_ge (pc := 4) 30 dX1_allReached_4 (by decide) (fun h4 => ?_) (fun h4 => ?_)
      · have e : i = 5 := by omega
        subst e
        refine wp_ic (pc := 30) (x := nI 0) dX1_allReached_30 ic_0 ?_
        refine wf_zret (pc := 31) (false) dX1_allReached_31 rfl rfl ?_
        refine ⟨?_, rfl⟩
        rw [anyN_f hf]
      · exact absurd (nI_le (by omega) (by omega)) h4
    | succ n ih =>
      intro i hn hm hf
      refine wp_iload_n (pc := 2) dX1_allReached_2 rfl ?_
      refine wp_ic (pc := 3) (x := nI 5) dX1_allReached_3 ic_5 ?_
      refine wp_icmp_ge (pc := 4) 30 dX1_allReached_4 (by decide) (fun h4 => ?_) (fun h4 => ?_)
      · exact absurd h4 (nI_ge (by omega) (by omega))
      · refine wp_aload_n (pc := 7) dX1_allReached_7 rfl ?_
        refine wf_getR (pc := 8) dX1_allReached_8 fl_X1_23 lk_131 h3 ?_
        refine wp_iload_n (pc := 11) dX1_allReached_11 rfl ?_
        refine wf_iald (pc := 12) (j := i) dX1_allReached_12 (lk_re hh).2 rfl (by omega) ?_
        refine wp_bipush (pc := 13) (x := nI 31) dX1_allReached_13 bp_31 ?_
        refine wp_ishr (pc := 15) dX1_allReached_15 ?_
        refine wp_ic (pc := 16) (x := nI 1) dX1_allReached_16 ic_1 ?_
        refine wp_iand (pc := 17) dX1_allReached_17 ?_
        refine wp_ic (pc := 18) (x := nI 1) dX1_allReached_18 ic_1 ?_
        refine wp_icmp_ne (pc := 19) 24 dX1_allReached_19 (by decide) (fun h19 => ?_) (fun h19 => ?_)
        · have e2 : (fun s => bt (M.1 rn s) 31) i = false := by show bt (M.1 rn i) 31 = false; cases q : bt (M.1 rn i) 31; rfl; exact absurd ((bat_bt (by decide)).mpr q) h19
          refine wp_iinc1 (pc := 24) (L' := [_, _]) dX1_allReached_24 rfl rfl rfl ?_
          refine wp_goto (pc := 27) 2 dX1_allReached_27 (by decide) ?_
          exact ih (i + 1) (by omega) (by omega) (fun o ho => by rcases Nat.lt_succ_iff_lt_or_eq.mp ho with q | rfl; exact hf o q; exact e2)
        · have e2 : (fun s => bt (M.1 rn s) 31) i = true := (bat_bt (by decide)).mp h19
          refine wp_ic (pc := 22) (x := nI 1) dX1_allReached_22 ic_1 ?_
          refine wf_zret (pc := 23) (true) dX1_allReached_23 rfl rfl ?_
          refine ⟨?_, rfl⟩
          rw [anyN_t (show i < 5 by omega) e2]
  refine wp_ic (pc := 0) (x := nI 0) dX1_allReached_0 ic_0 ?_
  refine wp_istore_n (pc := 1) (L' := [_, _]) dX1_allReached_1 (Nat.le_of_ble_eq_true rfl) rfl rfl ?_
  exact loop 5 0 (by omega) (by omega) (fun o ho => absurd ho (by omega))
theorem c_spread {l : Launch} {K : CtxT} {M : Mm} {re rn : Nat} (hh : (re = 142 ∧ rn = 143) ∨ (re = 143 ∧ rn = 142)) (h2 : M.2.2 131 2 = some re) (h3 : M.2.2 131 3 = some rn) {pe : Nat → Int32} (hR : RS M) (he : XE M pe) {k s : Nat} (hk : k < 7) (hs : s < 5) : Cv l K 1 mX1_spread [.ref (K.1 + 131), .int (nI k), .int (nI s)] M (fun M' => Sm rn (rn + 1) M M' ∧ (∀ s', s' < 5 → ∀ T, T < 32 → (bt (M'.1 rn s') T = true ↔ bt (M.1 rn s') T = true ∨ (∃ w, w < 3 ∧ (s' = stN s w ∧ ¬ nI s' = pe k ∧ ∃ S, S < 32 ∧ (bt (M.1 re s) S = true ∧ T = S ||| 2 ^ s')))))) := by
  refine cv_of (L := [some (.ref (K.1 + 131)), some (.int (nI k)), some (.int (nI s)), none, none]) (by decide +kernel) (Nat.le_of_ble_eq_true rfl) rfl rfl (fun E => ?_)
  have loop : ∀ (n v : Nat) (M1 : Mm), n = 3 - v → v ≤ 3 → Sm rn (rn + 1) M M1 → (∀ s', s' < 5 → ∀ T, T < 32 → (bt (M1.1 rn s') T = true ↔ bt (M.1 rn s') T = true ∨ (∃ w, w < v ∧ (s' = stN s w ∧ ¬ nI s' = pe k ∧ ∃ S, S < 32 ∧ (bt (M.1 re s) S = true ∧ T = S ||| 2 ^ s'))))) → ∀ z, Wp E K mX1_spread 1 (0, 0) 2 [some (.ref (K.1 + 131)), some (.int (nI k)), some (.int (nI s)), some (.int (nI v)), z] [] 168 M1 0 0 (zV E K (fun M' => Sm rn (rn + 1) M M' ∧ (∀ s', s' < 5 → ∀ T, T < 32 → (bt (M'.1 rn s') T = true ↔ bt (M.1 rn s') T = true ∨ (∃ w, w < 3 ∧ (s' = stN s w ∧ ¬ nI s' = pe k ∧ ∃ S, S < 32 ∧ (bt (M.1 re s) S = true ∧ T = S ||| 2 ^ s'))))))) := by
    intro n
    induction n with
    | zero =>
      intro v M1 hn hv s1 hd z
      refine wp_iload_n (pc := 2) dX1_spread_2 rfl ?_
      refine wp_ic (pc := 3) (x := nI 2) dX1_spread_3 ic_2 ?_
      refine wp_icmp_gt (pc := 4) 61 dX1_spread_4 (by decide) (fun h4 => ?_) (fun h4 => ?_)
      · have e : v = 3 := by omega
        subst e
        refine wf_vret (pc := 61) dX1_spread_61 rfl ?_
        exact ⟨s1, hd⟩
      · exact absurd (nI_lt (show 2 < v by omega) (by omega)) h4
    | succ n ih =>
      intro v M1 hn hv s1 hd z
      refine wp_iload_n (pc := 2) dX1_spread_2 rfl ?_
      refine wp_ic (pc := 3) (x := nI 2) dX1_spread_3 ic_2 ?_
      refine wp_icmp_gt (pc := 4) 61 dX1_spread_4 (by decide) (fun h4 => ?_) (fun h4 => ?_)
      · exact absurd h4 (nI_nlt (show v ≤ 2 by omega) (by omega))
      · refine wp_iload_n (pc := 7) dX1_spread_7 rfl ?_
        refine wp_iload_n (pc := 8) dX1_spread_8 rfl ?_
        refine wf_callSNi (pc := 9) dX1_spread_9 cl_X1_32 (c_streetBy hs (show v < 3 by omega)) rfl rfl (Nat.le_of_ble_eq_true rfl) (by decide) ⟨Nat.le_refl _, Nat.le_refl _⟩ (fun r9 M9 q9 => ?_)
        rw [q9.1, q9.2]
        have hlt := stN_lt s v
        refine wp_istore (pc := 12) (L' := [_, _, _, _, _]) dX1_spread_12 (Nat.le_of_ble_eq_true rfl) rfl rfl ?_
        have hre : M.1 re s = M1.1 re s := (s1.2 re (by omega) s).symm
        refine wp_aload_n (pc := 14) dX1_spread_14 rfl ?_
        refine wf_getR (pc := 15) dX1_spread_15 fl_X1_20 lk_131 (by rw [s1.1]; exact h2) ?_
        refine wp_iload_n (pc := 18) dX1_spread_18 rfl ?_
        refine wf_iald (pc := 19) (j := s) dX1_spread_19 (lk_re hh).1 rfl (by omega) ?_
        refine wp_if_eq (pc := 20) 55 dX1_spread_20 (by decide) (fun h20 => ?_) (fun h20 => ?_)
        · have hno : ∀ s' T, ¬ (s' = stN s v ∧ ¬ nI s' = pe k ∧ ∃ S, S < 32 ∧ (bt (M.1 re s) S = true ∧ T = S ||| 2 ^ s')) := fun s' T q => by
            obtain ⟨-, -, S, -, q2, -⟩ := q
            rw [hre, h20, b_0] at q2
            cases q2
          refine wp_iinc1 (pc := 55) (L' := [_, _, _, _, _]) dX1_spread_55 rfl rfl rfl ?_
          refine wp_goto (pc := 58) 2 dX1_spread_58 (by decide) ?_
          first | (exact ih (v + 1) M1 (by omega) (by omega) s1 (fun s' hs' T hT => ex_no (hd s' hs' T hT) (hno s' T)) _; done) | refine ih (v + 1) _ (by omega) (by omega) (s1.tr (Sm.w (by omega) (by omega))) (fun s' hs' T hT => ?_) _
          all_goals (
            by_cases es : s' = stN s v
            · rw [es, wI_at, b_or, Bool.or_eq_true, q50.1 T hT, ← es, false_or, ← hre]
              exact (or_congr_right (by simp [es, h31])).trans (ex_yes (hd s' hs' T hT))
            · rw [show (wI M1 rn (stN s v) (M1.1 rn (stN s v) ||| r50)).1 rn s' = M1.1 rn s' from wI_nk es]
              exact ex_no (hd s' hs' T hT) (fun q => es q.1))
        · refine wp_iload (pc := 23) dX1_spread_23 rfl ?_
          refine wp_aload_n (pc := 25) dX1_spread_25 rfl ?_
          refine wf_getR (pc := 26) dX1_spread_26 fl_X1_9 lk_131 ((s1.rs hR) 131 0 132 rfl) ?_
          refine wp_iload_n (pc := 29) dX1_spread_29 rfl ?_
          refine wf_iald (pc := 30) (j := k) dX1_spread_30 lk_132 rfl hk ?_
          rw [s1.2 132 (by omega) k, he k hk]
          refine wp_icmp_eq (pc := 31) 55 dX1_spread_31 (by decide) (fun h31 => ?_) (fun h31 => ?_)
          · have hno : ∀ s' T, ¬ (s' = stN s v ∧ ¬ nI s' = pe k ∧ ∃ S, S < 32 ∧ (bt (M.1 re s) S = true ∧ T = S ||| 2 ^ s')) := fun s' T q => q.2.1 (by rw [q.1]; exact h31)
            refine wp_iinc1 (pc := 55) (L' := [_, _, _, _, _]) dX1_spread_55 rfl rfl rfl ?_
            refine wp_goto (pc := 58) 2 dX1_spread_58 (by decide) ?_
            first | (exact ih (v + 1) M1 (by omega) (by omega) s1 (fun s' hs' T hT => ex_no (hd s' hs' T hT) (hno s' T)) _; done) | refine ih (v + 1) _ (by omega) (by omega) (s1.tr (Sm.w (by omega) (by omega))) (fun s' hs' T hT => ?_) _
            all_goals (
              by_cases es : s' = stN s v
              · rw [es, wI_at, b_or, Bool.or_eq_true, q50.1 T hT, ← es, false_or, ← hre]
                exact (or_congr_right (by simp [es, h31])).trans (ex_yes (hd s' hs' T hT))
              · rw [show (wI M1 rn (stN s v) (M1.1 rn (stN s v) ||| r50)).1 rn s' = M1.1 rn s' from wI_nk es]
                exact ex_no (hd s' hs' T hT) (fun q => es q.1))
          · refine wp_aload_n (pc := 34) dX1_spread_34 rfl ?_
            refine wf_getR (pc := 35) dX1_spread_35 fl_X1_23 lk_131 (by rw [s1.1]; exact h3) ?_
            refine wp_iload (pc := 38) dX1_spread_38 rfl ?_
            refine wp_dup2 (pc := 40) dX1_spread_40 rfl rfl ?_
            refine wf_iald (pc := 41) (j := (stN s v)) dX1_spread_41 (lk_re hh).2 rfl hlt ?_
            refine wp_aload_n (pc := 42) dX1_spread_42 rfl ?_
            refine wf_getR (pc := 43) dX1_spread_43 fl_X1_20 lk_131 (by rw [s1.1]; exact h2) ?_
            refine wp_iload_n (pc := 46) dX1_spread_46 rfl ?_
            refine wf_iald (pc := 47) (j := s) dX1_spread_47 (lk_re hh).1 rfl (by omega) ?_
            refine wp_iload (pc := 48) dX1_spread_48 rfl ?_
            refine wf_callSi (pc := 50) dX1_spread_50 cl_X1_56 (c_withStreet (stN_lt _ _)) rfl rfl (Nat.le_of_ble_eq_true rfl) (by decide) ⟨Nat.le_refl _, Nat.le_refl _⟩ (fun r50 M50 q50 => ?_)
            rw [q50.2]
            refine wp_ior (pc := 53) dX1_spread_53 ?_
            refine wf_iast (pc := 54) (j := (stN s v)) dX1_spread_54 (lk_re hh).2 rfl hlt ?_
            refine wp_iinc1 (pc := 55) (L' := [_, _, _, _, _]) dX1_spread_55 rfl rfl rfl ?_
            refine wp_goto (pc := 58) 2 dX1_spread_58 (by decide) ?_
            first | (exact ih (v + 1) M1 (by omega) (by omega) s1 (fun s' hs' T hT => ex_no (hd s' hs' T hT) (hno s' T)) _; done) | refine ih (v + 1) _ (by omega) (by omega) (s1.tr (Sm.w (by omega) (by omega))) (fun s' hs' T hT => ?_) _
            all_goals (
              by_cases es : s' = stN s v
              · rw [es, wI_at, b_or, Bool.or_eq_true, q50.1 T hT, ← es, false_or, ← hre]
                exact (or_congr_right (by simp [es, h31])).trans (ex_yes (hd s' hs' T hT))
              · rw [show (wI M1 rn (stN s v) (M1.1 rn (stN s v) ||| r50)).1 rn s' = M1.1 rn s' from wI_nk es]
                exact ex_no (hd s' hs' T hT) (fun q => es q.1))
  refine wp_ic (pc := 0) (x := nI 0) dX1_spread_0 ic_0 ?_
  refine wp_istore_n (pc := 1) (L' := [_, _, _, _, _]) dX1_spread_1 (Nat.le_of_ble_eq_true rfl) rfl rfl ?_
  exact loop 3 0 M (by omega) (by omega) Sm.rf (fun s' hs' T hT => ex_0 Iff.rfl) _
/-- references as they were but for the two rows that change places -/
def Rh (M M' : Mm) : Prop := M'.2.1 = M.2.1 ∧ ∀ a k, (a = 131 → k < 2) → M'.2.2 a k = M.2.2 a k
theorem Rh.rf {M : Mm} : Rh M M := ⟨rfl, fun _ _ _ => rfl⟩
theorem Rh.tr {M M1 M2 : Mm} (h1 : Rh M M1) (h2 : Rh M1 M2) : Rh M M2 := ⟨h2.1.trans h1.1, fun a k h => (h2.2 a k h).trans (h1.2 a k h)⟩
theorem Sm.rh {lo hi : Nat} {M M' : Mm} (h : Sm lo hi M M') : Rh M M' := ⟨by rw [h.1], fun a k _ => by rw [h.1]⟩
theorem rtab_131 {k b : Nat} (h : rtab 131 k = some b) : k < 2 := by
  simp only [rtab, lk_131] at h
  by_cases h0 : k = 0
  · omega
  · by_cases h1 : k = 1
    · omega
    · simp [h0, h1] at h
theorem Rh.rs {M M' : Mm} (h : Rh M M') (hR : RS M) : RS M' := fun a k b q => by
  rw [h.2 a k (fun e => by subst e; exact rtab_131 q)]
  exact hR a k b q
theorem c_fewestHours {l : Launch} {K : CtxT} {M : Mm} {pe : Nat → Int32} {f re rn : Nat} (hR : RS M) (he : XE M pe) (hf : f < 5) (hXH : XH M re rn) : Ci l K 2 mX1_fewestHours [.ref (K.1 + 131), .int (nI f)] M (fun rv M' => ((∃ k, k < 7 ∧ rv = nI (k + 1) ∧ (∃ s, s < 5 ∧ rchP pe f (k + 1) s 31) ∧ ∀ j, j < k → ¬ (∃ s, s < 5 ∧ rchP pe f (j + 1) s 31)) ∨ (rv = no9 ∧ ∀ k, k < 7 → ¬ (∃ s, s < 5 ∧ rchP pe f (k + 1) s 31))) ∧ Si 142 144 M M' ∧ Rh M M' ∧ ∃ re rn, XH M' re rn) := by
  obtain ⟨h2, h3, hh⟩ := hXH
  refine ci_of (L := [some (.ref (K.1 + 131)), some (.int (nI f)), none, none]) (by decide +kernel) (Nat.le_of_ble_eq_true rfl) rfl rfl (fun E => ?_)
  have inner : ∀ (k re rn : Nat) (M2 : Mm), k < 7 → (hh : (re = 142 ∧ rn = 143) ∨ (re = 143 ∧ rn = 142)) → M2.2.2 131 2 = some re → M2.2.2 131 3 = some rn → RS M2 → XE M2 pe → (∀ M3, Sm rn (rn + 1) M2 M3 → (∀ s', s' < 5 → ∀ T, T < 32 → (bt (M3.1 rn s') T = true ↔ False ∨ ∃ s0, s0 < 5 ∧ (∃ w, w < 3 ∧ (s' = stN s0 w ∧ ¬ nI s' = pe k ∧ ∃ S, S < 32 ∧ (bt (M2.1 re s0) S = true ∧ T = S ||| 2 ^ s'))))) → Wp E K mX1_fewestHours 2 (0, 0) 50 [some (.ref (K.1 + 131)), some (.int (nI f)), some (.int (nI k)), some (.int (nI 5))] [] 168 M3 0 0 (zI E K (fun rv M' => ((∃ k, k < 7 ∧ rv = nI (k + 1) ∧ (∃ s, s < 5 ∧ rchP pe f (k + 1) s 31) ∧ ∀ j, j < k → ¬ (∃ s, s < 5 ∧ rchP pe f (j + 1) s 31)) ∨ (rv = no9 ∧ ∀ k, k < 7 → ¬ (∃ s, s < 5 ∧ rchP pe f (k + 1) s 31))) ∧ Si 142 144 M M' ∧ Rh M M' ∧ ∃ re rn, XH M' re rn))) →
      ∀ (n s : Nat) (M3 : Mm), n = 5 - s → s ≤ 5 → Sm rn (rn + 1) M2 M3 → (∀ s', s' < 5 → ∀ T, T < 32 → (bt (M3.1 rn s') T = true ↔ False ∨ ∃ s0, s0 < s ∧ (∃ w, w < 3 ∧ (s' = stN s0 w ∧ ¬ nI s' = pe k ∧ ∃ S, S < 32 ∧ (bt (M2.1 re s0) S = true ∧ T = S ||| 2 ^ s'))))) → Wp E K mX1_fewestHours 2 (0, 0) 33 [some (.ref (K.1 + 131)), some (.int (nI f)), some (.int (nI k)), some (.int (nI s))] [] 168 M3 0 0 (zI E K (fun rv M' => ((∃ k, k < 7 ∧ rv = nI (k + 1) ∧ (∃ s, s < 5 ∧ rchP pe f (k + 1) s 31) ∧ ∀ j, j < k → ¬ (∃ s, s < 5 ∧ rchP pe f (j + 1) s 31)) ∨ (rv = no9 ∧ ∀ k, k < 7 → ¬ (∃ s, s < 5 ∧ rchP pe f (k + 1) s 31))) ∧ Si 142 144 M M' ∧ Rh M M' ∧ ∃ re rn, XH M' re rn)) := by
    intro k re rn M2 hk hh h2 h3 hR he hout n
    induction n with
    | zero =>
      intro s M3 hn hs s1 hd
      refine wp_iload_n (pc := 33) dX1_fewestHours_33 rfl ?_
      refine wp_ic (pc := 34) (x := nI 5) dX1_fewestHours_34 ic_5 ?_
      refine wp_icmp_ge (pc := 35) 50 dX1_fewestHours_35 (by decide) (fun h35 => ?_) (fun h35 => ?_)
      · have e : s = 5 := by omega
        subst e
        exact hout M3 s1 hd
      · exact absurd (nI_le (by omega) (by omega)) h35
    | succ n ih =>
      intro s M3 hn hs s1 hd
      refine wp_iload_n (pc := 33) dX1_fewestHours_33 rfl ?_
      refine wp_ic (pc := 34) (x := nI 5) dX1_fewestHours_34 ic_5 ?_
      refine wp_icmp_ge (pc := 35) 50 dX1_fewestHours_35 (by decide) (fun h35 => ?_) (fun h35 => ?_)
      · exact absurd h35 (nI_ge (by omega) (by omega))
      · refine wp_aload_n (pc := 38) dX1_fewestHours_38 rfl ?_
        refine wp_iload_n (pc := 39) dX1_fewestHours_39 rfl ?_
        refine wp_iload_n (pc := 40) dX1_fewestHours_40 rfl ?_
        refine wf_callVv (pc := 41) dX1_fewestHours_41 cl_X1_48 (c_spread hh (by rw [s1.1]; exact h2) (by rw [s1.1]; exact h3) (s1.rs hR) (he.si s1.2 (by omega)) hk (show s < 5 by omega)) lk_131 rfl rfl rfl rfl (Nat.le_of_ble_eq_true rfl) (by decide) ⟨Nat.le_refl _, Nat.le_refl _⟩ (fun M41 q41 => ?_)
        refine wp_iinc1 (pc := 44) (L' := [_, _, _, _]) dX1_fewestHours_44 rfl rfl rfl ?_
        refine wp_goto (pc := 47) 33 dX1_fewestHours_47 (by decide) ?_
        have hrr : re ≠ rn := by omega
        refine ih (s + 1) M41 (by omega) (by omega) (s1.tr q41.1) (fun s' hs' T hT => ?_)
        rw [q41.2 s' hs' T hT, show M3.1 re s = M2.1 re s from s1.2 re (by omega) s]
        exact ex_yes (hd s' hs' T hT)
  have loop : ∀ (n k re rn : Nat) (M1 : Mm), n = 7 - k → k ≤ 7 → (hh : (re = 142 ∧ rn = 143) ∨ (re = 143 ∧ rn = 142)) → M1.2.2 131 2 = some re → M1.2.2 131 3 = some rn → RS M1 → XE M1 pe → (∀ s', s' < 5 → ∀ T, T < 32 → (bt (M1.1 rn s') T = true ↔ rchP pe f k s' T)) → (∀ j, j < k → ¬ (∃ s, s < 5 ∧ rchP pe f (j + 1) s 31)) → Si 142 144 M M1 → Rh M M1 → ∀ z, Wp E K mX1_fewestHours 2 (0, 0) 17 [some (.ref (K.1 + 131)), some (.int (nI f)), some (.int (nI k)), z] [] 168 M1 0 0 (zI E K (fun rv M' => ((∃ k, k < 7 ∧ rv = nI (k + 1) ∧ (∃ s, s < 5 ∧ rchP pe f (k + 1) s 31) ∧ ∀ j, j < k → ¬ (∃ s, s < 5 ∧ rchP pe f (j + 1) s 31)) ∨ (rv = no9 ∧ ∀ k, k < 7 → ¬ (∃ s, s < 5 ∧ rchP pe f (k + 1) s 31))) ∧ Si 142 144 M M' ∧ Rh M M' ∧ ∃ re rn, XH M' re rn)) := by
    intro n
    induction n with
    | zero =>
      intro k re rn M1 hn hk hh h2 h3 hR he hx hno hsi hrh z
      refine wp_iload_n (pc := 17) dX1_fewestHours_17 rfl ?_
      refine wp_bipush (pc := 18) (x := nI 7) dX1_fewestHours_18 bp_7 ?_
      refine wp_icmp_ge (pc := 20) 67 dX1_fewestHours_20 (by decide) (fun h20 => ?_) (fun h20 => ?_)
      · have e : k = 7 := by omega
        subst e
        refine wp_bipush (pc := 67) (x := (-9)) dX1_fewestHours_67 bp_m9 ?_
        refine wf_iret (pc := 69) dX1_fewestHours_69 rfl ?_
        exact ⟨Or.inr ⟨rfl, hno⟩, hsi, hrh, re, rn, h2, h3, hh⟩
      · exact absurd (nI_le (by omega) (by omega)) h20
    | succ n ih =>
      intro k re rn M1 hn hk hh h2 h3 hR he hx hno hsi hrh z
      have hh2 : (rn = 142 ∧ re = 143) ∨ (rn = 143 ∧ re = 142) := by omega
      refine wp_iload_n (pc := 17) dX1_fewestHours_17 rfl ?_
      refine wp_bipush (pc := 18) (x := nI 7) dX1_fewestHours_18 bp_7 ?_
      refine wp_icmp_ge (pc := 20) 67 dX1_fewestHours_20 (by decide) (fun h20 => ?_) (fun h20 => ?_)
      · exact absurd h20 (nI_ge (by omega) (by omega))
      · refine wp_aload_n (pc := 23) dX1_fewestHours_23 rfl ?_
        refine wf_callVv (pc := 24) dX1_fewestHours_24 cl_X1_45 (c_swap hh h2 h3) lk_131 rfl rfl rfl rfl (Nat.le_of_ble_eq_true rfl) (by decide) ⟨Nat.le_refl _, Nat.le_refl _⟩ (fun M24 q24 => ?_)
        have e2 : M24.2.2 131 2 = some rn := by rw [q24]; simp [wR]
        have e3 : M24.2.2 131 3 = some re := by rw [q24]; simp [wR]
        have rh1 : Rh M1 M24 := by
          refine ⟨by rw [q24]; rfl, fun a j hj => ?_⟩
          rw [q24]
          simp only [wR]
          rw [if_neg (fun z => by have := hj z.1; omega), if_neg (fun z => by have := hj z.1; omega)]
        have ei : ∀ a j, M24.1 a j = M1.1 a j := fun a j => by rw [q24]; rfl
        refine wp_aload_n (pc := 27) dX1_fewestHours_27 rfl ?_
        refine wf_callVv (pc := 28) dX1_fewestHours_28 cl_X1_42 (c_clearNext hh2 e2 e3) lk_131 rfl rfl rfl rfl (Nat.le_of_ble_eq_true rfl) (by decide) ⟨Nat.le_refl _, Nat.le_refl _⟩ (fun M28 q28 => ?_)
        have hR2 := rh1.rs hR
        have hR3 := q28.1.rs hR2
        have hrr : re ≠ rn := by omega
        refine wp_ic (pc := 31) (x := nI 0) dX1_fewestHours_31 ic_0 ?_
        refine wp_istore_n (pc := 32) (L' := [_, _, _, _]) dX1_fewestHours_32 (Nat.le_of_ble_eq_true rfl) rfl rfl ?_
        refine inner k rn re M28 (by omega) hh2 (by rw [q28.1.1]; exact e2) (by rw [q28.1.1]; exact e3) hR3 (fun j hj => by rw [q28.1.2 132 (by omega), ei]; exact he j hj) (fun M3 s3 hd3 => ?_) 5 0 M28 (by omega) (by omega) Sm.rf (fun s' hs' T hT => ex_0 (by rw [q28.2 s' hs', show nI 0 = 0 from rfl, b_0]; simp))
        have hfull : (∀ s', s' < 5 → ∀ T, T < 32 → (bt (M3.1 re s') T = true ↔ rchP pe f (k + 1) s' T)) := fun s' hs' T hT => by
          rw [hd3 s' hs' T hT]
          constructor
          · rintro (q | ⟨s0, a1, w, a2, a3, a4, S, a5, a6, a7⟩)
            · exact q.elim
            · exact ⟨s0, w, S, a1, a2, a3, a4, a5, (hx s0 a1 S a5).mp (by rw [← ei, ← q28.1.2 rn (by omega)]; exact a6), a7⟩
          · rintro ⟨s0, w, S, a1, a2, a3, a4, a5, a6, a7⟩
            exact Or.inr ⟨s0, a1, w, a2, a3, a4, S, a5, by rw [q28.1.2 rn (by omega), ei]; exact (hx s0 a1 S a5).mpr a6, a7⟩
        have si3 : Si 142 144 M M3 := fun a ha j => by rw [s3.2 a (by omega), q28.1.2 a (by omega), ei]; exact hsi a ha j
        have rh3 : Rh M M3 := hrh.tr (rh1.tr (q28.1.rh.tr s3.rh))
        refine wp_aload_n (pc := 50) dX1_fewestHours_50 rfl ?_
        refine wf_callVi (pc := 51) dX1_fewestHours_51 cl_X1_52 (c_allReached hh2 (by rw [s3.1, q28.1.1]; exact e2) (by rw [s3.1, q28.1.1]; exact e3)) lk_131 rfl rfl rfl rfl (Nat.le_of_ble_eq_true rfl) (by decide) ⟨Nat.le_refl _, Nat.le_refl _⟩ (fun r51 M51 q51 => ?_)
        rw [q51.1, q51.2]
        refine wp_if_eq (pc := 54) 61 dX1_fewestHours_54 (by decide) (fun h54 => ?_) (fun h54 => ?_)
        · have h54 := b2i_0 h54
          have hno2 : ¬ (∃ s, s < 5 ∧ rchP pe f (k + 1) s 31) := fun ⟨s, hs, q⟩ => by
            have := anyN_t (f := fun s => bt (M3.1 re s) 31) hs ((hfull s hs 31 (by decide)).mpr q)
            rw [this] at h54
            cases h54
          refine wp_iinc1 (pc := 61) (L' := [_, _, _, _]) dX1_fewestHours_61 rfl rfl rfl ?_
          refine wp_goto (pc := 64) 17 dX1_fewestHours_64 (by decide) ?_
          exact ih (k + 1) rn re M3 (by omega) (by omega) hh2 (by rw [s3.1, q28.1.1]; exact e2) (by rw [s3.1, q28.1.1]; exact e3) (s3.rs hR3) (fun j hj => by rw [s3.2 132 (by omega), q28.1.2 132 (by omega), ei]; exact he j hj) hfull (fun j hj => by rcases Nat.lt_succ_iff_lt_or_eq.mp hj with q | rfl; exact hno j q; exact hno2) si3 rh3 _
        · have h54 := b2i_1 h54
          have hyes : (∃ s, s < 5 ∧ rchP pe f (k + 1) s 31) := by
            obtain ⟨s, hs, q⟩ := List.any_eq_true.mp h54
            exact ⟨s, List.mem_range.mp hs, (hfull s (List.mem_range.mp hs) 31 (by decide)).mp q⟩
          refine wp_iload_n (pc := 57) dX1_fewestHours_57 rfl ?_
          refine wp_ic (pc := 58) (x := nI 1) dX1_fewestHours_58 ic_1 ?_
          refine wp_iadd (pc := 59) dX1_fewestHours_59 ?_
          rw [nI_add]
          refine wf_iret (pc := 60) dX1_fewestHours_60 rfl ?_
          exact ⟨Or.inl ⟨k, by omega, rfl, hyes, hno⟩, si3, rh3, rn, re, by rw [s3.1, q28.1.1]; exact e2, by rw [s3.1, q28.1.1]; exact e3, hh2⟩
  refine wp_aload_n (pc := 0) dX1_fewestHours_0 rfl ?_
  refine wf_callVv (pc := 1) dX1_fewestHours_1 cl_X1_42 (c_clearNext hh h2 h3) lk_131 rfl rfl rfl rfl (Nat.le_of_ble_eq_true rfl) (by decide) ⟨Nat.le_refl _, Nat.le_refl _⟩ (fun M1 q1 => ?_)
  have hR1 := q1.1.rs hR
  refine wp_aload_n (pc := 4) dX1_fewestHours_4 rfl ?_
  refine wf_getR (pc := 5) dX1_fewestHours_5 fl_X1_23 lk_131 (by rw [q1.1.1]; exact h3) ?_
  refine wp_iload_n (pc := 8) dX1_fewestHours_8 rfl ?_
  refine wp_ic (pc := 9) (x := nI 1) dX1_fewestHours_9 ic_1 ?_
  refine wp_ic (pc := 10) (x := nI 1) dX1_fewestHours_10 ic_1 ?_
  refine wp_iload_n (pc := 11) dX1_fewestHours_11 rfl ?_
  refine wp_ishl (pc := 12) dX1_fewestHours_12 ?_
  rw [bit_pow hf]
  refine wp_ishl (pc := 13) dX1_fewestHours_13 ?_
  refine wf_iast (pc := 14) (j := f) dX1_fewestHours_14 (lk_re hh).2 rfl hf ?_
  refine wp_ic (pc := 15) (x := nI 0) dX1_fewestHours_15 ic_0 ?_
  refine wp_istore_n (pc := 16) (L' := [_, _, _, _]) dX1_fewestHours_16 (Nat.le_of_ble_eq_true rfl) rfl rfl ?_
  have s2 : Sm rn (rn + 1) M1 (wI M1 rn f (nI 1 <<< (nI (2 ^ f) &&& 31))) := Sm.w (by omega) (by omega)
  refine loop 7 0 re rn _ (by omega) (by omega) hh (by rw [s2.1, q1.1.1]; exact h2) (by rw [s2.1, q1.1.1]; exact h3) (s2.rs hR1) (fun j hj => by rw [s2.2 132 (by omega), q1.1.2 132 (by omega)]; exact he j hj) (fun s hs T hT => ?_) (fun j hj => absurd hj (by omega)) (Si.up (q1.1.tr s2).2 (by omega) (by omega)) (q1.1.rh.tr s2.rh) _
  by_cases e : s = f
  · rw [e, wI_at, bt_bit _ (pow32 hf) T hT, decide_eq_true_eq]
    exact ⟨fun q => ⟨rfl, q⟩, fun q => q.2⟩
  · rw [wI_nk e, q1.2 s hs, show nI 0 = 0 from rfl, b_0]
    exact ⟨fun q => (by cases q), fun q => absurd q.1 e⟩
