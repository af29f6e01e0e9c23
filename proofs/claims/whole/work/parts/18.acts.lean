/-! what a street is worth, rests -/
def woN (r s : Nat) : Nat := r / 10 ^ (4 - s) % 10
def waN (r w b : Nat) : Nat := if w = b then woN r b else 0
def baN (r w b : Nat) : Nat := if w = b then 0 else woN r b
def holdsN (r w b : Nat) : Bool := !anyN 5 (fun o => decide (waN r w b < waN r o b) || decide (baN r w b < baN r w o))
theorem nI_gtI {a b : Nat} (ha : a < 2 ^ 31) (hb : b < 2 ^ 31) : (nI a < nI b) ↔ a < b := nI_ltI ha hb
theorem woN_lt (r s : Nat) : woN r s < 10 := Nat.mod_lt _ (by decide)
theorem waN_lt (r w b : Nat) : waN r w b < 10 := by unfold waN; split; exact woN_lt _ _; decide
theorem baN_lt (r w b : Nat) : baN r w b < 10 := by unfold baN; split; decide; exact woN_lt _ _
theorem c_worth {l : Launch} {K : CtxT} {M : Mm} {r s : Nat} (hr : r ≤ 99999) (hs : s < 5) : Ci l K 0 mX4_worth [.int (nI r), .int (nI s)] M (fun rv M' => rv = nI (woN r s) ∧ M' = M) := by
  refine ci_of (L := [some (.int (nI r)), some (.int (nI s)), none, none]) (by decide +kernel) (Nat.le_of_ble_eq_true rfl) rfl rfl (fun E => ?_)
  have loop : ∀ (n i : Nat), n = 5 - i → i ≤ 5 →  s + 1 ≤ i → Wp E K mX4_worth 0 (0, 0) 6 [some (.int (nI r)), some (.int (nI s)), some (.int (nI (r / 10 ^ (i - (s + 1))))), some (.int (nI i))] [] 168 M 0 0 (zI E K (fun rv M' => rv = nI (woN r s) ∧ M' = M)) := by
    intro n
    induction n with
    | zero =>
      intro i hn hm hi
      refine wp_iload_n (pc := 6) dX4_worth_6 rfl ?_
      refine wp_ic (pc := 7) (x := nI 5) dX4_worth_7 ic_5 ?_
      refine wp_icmp_ge (pc := 8) 22 dX4_worth_8 (by decide) (fun h8 => ?_) (fun h8 => ?_)
      · have e : i = 5 := by omega
        subst e
        have hb : r / 10 ^ (5 - (s + 1)) ≤ r := Nat.div_le_self _ _
        refine wp_iload_n (pc := 22) dX4_worth_22 rfl ?_
        refine wp_bipush (pc := 23) (x := nI 10) dX4_worth_23 bp_10 ?_
        refine wp_iremN (pc := 25) dX4_worth_25 rfl rfl (by omega) (by decide) (by decide) ?_
        refine wf_iret (pc := 26) dX4_worth_26 rfl ?_
        exact ⟨by unfold woN; rw [show 5 - (s + 1) = 4 - s by omega], rfl⟩
      · exact absurd (nI_le (by omega) (by omega)) h8
    | succ n ih =>
      intro i hn hm hi
      refine wp_iload_n (pc := 6) dX4_worth_6 rfl ?_
      refine wp_ic (pc := 7) (x := nI 5) dX4_worth_7 ic_5 ?_
      refine wp_icmp_ge (pc := 8) 22 dX4_worth_8 (by decide) (fun h8 => ?_) (fun h8 => ?_)
      · exact absurd h8 (nI_ge (by omega) (by omega))
      · refine wp_iload_n (pc := 11) dX4_worth_11 rfl ?_
        refine wp_bipush (pc := 12) (x := nI 10) dX4_worth_12 bp_10 ?_
        have hb : r / 10 ^ (i - (s + 1)) ≤ r := Nat.div_le_self _ _
        refine wp_idivN (pc := 14) dX4_worth_14 rfl rfl (by omega) (by decide) (by decide) ?_
        refine wp_istore_n (pc := 15) (L' := [_, _, _, _]) dX4_worth_15 (Nat.le_of_ble_eq_true rfl) rfl rfl ?_
        refine wp_iinc1 (pc := 16) (L' := [_, _, _, _]) dX4_worth_16 rfl rfl rfl ?_
        refine wp_goto (pc := 19) 6 dX4_worth_19 (by decide) ?_
        have g := ih (i + 1) (by omega) (by omega) (by omega)
        rw [show i + 1 - (s + 1) = (i - (s + 1)) + 1 by omega, Nat.pow_succ, ← Nat.div_div_eq_div_mul] at g
        exact g
  refine wp_iload_n (pc := 0) dX4_worth_0 rfl ?_
  refine wp_istore_n (pc := 1) (L' := [_, _, _, _]) dX4_worth_1 (Nat.le_of_ble_eq_true rfl) rfl rfl ?_
  refine wp_iload_n (pc := 2) dX4_worth_2 rfl ?_
  refine wp_ic (pc := 3) (x := nI 1) dX4_worth_3 ic_1 ?_
  refine wp_iadd (pc := 4) dX4_worth_4 ?_
  rw [nI_add]
  refine wp_istore_n (pc := 5) (L' := [_, _, _, _]) dX4_worth_5 (Nat.le_of_ble_eq_true rfl) rfl rfl ?_
  have g := loop (5 - (s + 1)) (s + 1) (by omega) (by omega) (Nat.le_refl _)
  rw [Nat.sub_self, Nat.pow_zero, Nat.div_one] at g
  exact g
theorem c_wardens {l : Launch} {K : CtxT} {M : Mm} {r a b : Nat} (hr : r ≤ 99999) (ha : a < 5) (hb : b < 5) : Ci l K 1 mX4_wardens [.int (nI r), .int (nI a), .int (nI b)] M (fun rv M' => rv = nI (waN r a b) ∧ M' = M) := by
  refine ci_of (L := [some (.int (nI r)), some (.int (nI a)), some (.int (nI b))]) (by decide +kernel) (Nat.le_of_ble_eq_true rfl) rfl rfl (fun E => ?_)
  refine wp_iload_n (pc := 0) dX4_wardens_0 rfl ?_
  refine wp_iload_n (pc := 1) dX4_wardens_1 rfl ?_
  refine wp_icmp_ne (pc := 2) 13 dX4_wardens_2 (by decide) (fun h2 => ?_) (fun h2 => ?_)
  · have h2 : ¬ a = b := fun q => h2 (by rw [q])
    refine wp_ic (pc := 13) (x := nI 0) dX4_wardens_13 ic_0 ?_
    refine wf_iret (pc := 14) dX4_wardens_14 rfl ?_
    exact ⟨by simp [waN, h2], rfl⟩
  · have h2 : a = b := (nI_eq (by omega) (by omega)).mp h2
    refine wp_iload_n (pc := 5) dX4_wardens_5 rfl ?_
    refine wp_iload_n (pc := 6) dX4_wardens_6 rfl ?_
    refine wf_callSi (pc := 7) dX4_wardens_7 cl_X4_18 (c_worth hr (by omega)) rfl rfl (Nat.le_of_ble_eq_true rfl) (by decide) ⟨Nat.le_refl _, Nat.le_refl _⟩ (fun r7 M7 q7 => ?_)
    rw [q7.1, q7.2]
    refine wp_goto (pc := 10) 14 dX4_wardens_10 (by decide) ?_
    refine wf_iret (pc := 14) dX4_wardens_14 rfl ?_
    exact ⟨by simp [waN, h2], rfl⟩
theorem c_bachelors {l : Launch} {K : CtxT} {M : Mm} {r a b : Nat} (hr : r ≤ 99999) (ha : a < 5) (hb : b < 5) : Ci l K 1 mX4_bachelors [.int (nI r), .int (nI a), .int (nI b)] M (fun rv M' => rv = nI (baN r a b) ∧ M' = M) := by
  refine ci_of (L := [some (.int (nI r)), some (.int (nI a)), some (.int (nI b))]) (by decide +kernel) (Nat.le_of_ble_eq_true rfl) rfl rfl (fun E => ?_)
  refine wp_iload_n (pc := 0) dX4_bachelors_0 rfl ?_
  refine wp_iload_n (pc := 1) dX4_bachelors_1 rfl ?_
  refine wp_icmp_ne (pc := 2) 9 dX4_bachelors_2 (by decide) (fun h2 => ?_) (fun h2 => ?_)
  · have h2 : ¬ a = b := fun q => h2 (by rw [q])
    refine wp_iload_n (pc := 9) dX4_bachelors_9 rfl ?_
    refine wp_iload_n (pc := 10) dX4_bachelors_10 rfl ?_
    refine wf_callSi (pc := 11) dX4_bachelors_11 cl_X4_18 (c_worth hr (by omega)) rfl rfl (Nat.le_of_ble_eq_true rfl) (by decide) ⟨Nat.le_refl _, Nat.le_refl _⟩ (fun r11 M11 q11 => ?_)
    rw [q11.1, q11.2]
    refine wf_iret (pc := 14) dX4_bachelors_14 rfl ?_
    exact ⟨by simp [baN, h2], rfl⟩
  · have h2 : a = b := (nI_eq (by omega) (by omega)).mp h2
    refine wp_ic (pc := 5) (x := nI 0) dX4_bachelors_5 ic_0 ?_
    refine wp_goto (pc := 6) 14 dX4_bachelors_6 (by decide) ?_
    refine wf_iret (pc := 14) dX4_bachelors_14 rfl ?_
    exact ⟨by simp [baN, h2], rfl⟩
theorem c_rest_holds {l : Launch} {K : CtxT} {M : Mm} {r a b : Nat} (hr : r ≤ 99999) (ha : a < 5) (hb : b < 5) : Ci l K 2 mX4_holds [.int (nI r), .int (nI a), .int (nI b)] M (fun rv M' => rv = b2i (holdsN r a b) ∧ M' = M) := by
  refine ci_of (L := [some (.int (nI r)), some (.int (nI a)), some (.int (nI b)), none, none, none]) (by decide +kernel) (Nat.le_of_ble_eq_true rfl) rfl rfl (fun E => ?_)
  have loop : ∀ (n i : Nat), n = 5 - i → i ≤ 5 →  (∀ o, o < i → (fun o => decide (waN r a b < waN r o b) || decide (baN r a b < baN r a o)) o = false) → Wp E K mX4_holds 2 (0, 0) 18 [some (.int (nI r)), some (.int (nI a)), some (.int (nI b)), some (.int (nI (waN r a b))), some (.int (nI (baN r a b))), some (.int (nI i))] [] 168 M 0 0 (zI E K (fun rv M' => rv = b2i (holdsN r a b) ∧ M' = M)) := by
    intro n
    induction n with
    | zero =>
      intro i hn hm hf
      refine wp_iload (pc := 18) dX4_holds_18 rfl ?_
      refine wp_ic (pc := 20) (x := nI 5) dX4_holds_20 ic_5 ?_
      refine wp_icmp_ge (pc := 21) 55 dX4_holds_21 (by decide) (fun h21 => ?_) (fun h21 => ?_)
      · have e : i = 5 := by omega
        subst e
        refine wp_ic (pc := 55) (x := nI 1) dX4_holds_55 ic_1 ?_
        refine wf_zret (pc := 56) (true) dX4_holds_56 rfl rfl ?_
        refine ⟨?_, rfl⟩
        unfold holdsN
        rw [anyN_f hf]
        rfl
      · exact absurd (nI_le (by omega) (by omega)) h21
    | succ n ih =>
      intro i hn hm hf
      refine wp_iload (pc := 18) dX4_holds_18 rfl ?_
      refine wp_ic (pc := 20) (x := nI 5) dX4_holds_20 ic_5 ?_
      refine wp_icmp_ge (pc := 21) 55 dX4_holds_21 (by decide) (fun h21 => ?_) (fun h21 => ?_)
      · exact absurd h21 (nI_ge (by omega) (by omega))
      · refine wp_iload_n (pc := 24) dX4_holds_24 rfl ?_
        refine wp_iload (pc := 25) dX4_holds_25 rfl ?_
        refine wp_iload_n (pc := 27) dX4_holds_27 rfl ?_
        refine wf_callSi (pc := 28) dX4_holds_28 cl_X4_9 (c_wardens hr (by omega) (by omega)) rfl rfl (Nat.le_of_ble_eq_true rfl) (by decide) ⟨Nat.le_refl _, Nat.le_refl _⟩ (fun r28 M28 q28 => ?_)
        rw [q28.1, q28.2]
        refine wp_iload_n (pc := 31) dX4_holds_31 rfl ?_
        have b1 := waN_lt r a b
        have b2 := waN_lt r i b
        have b3 := baN_lt r a b
        have b4 := baN_lt r a i
        refine wp_icmp_gt (pc := 32) 47 dX4_holds_32 (by decide) (fun h32 => ?_) (fun h32 => ?_)
        · have h32 := (nI_ltI (by omega) (by omega)).mp h32
          have e2 : (fun o => decide (waN r a b < waN r o b) || decide (baN r a b < baN r a o)) i = true := by simp [h32]
          refine wp_ic (pc := 47) (x := nI 0) dX4_holds_47 ic_0 ?_
          refine wf_zret (pc := 48) (false) dX4_holds_48 rfl rfl ?_
          refine ⟨?_, rfl⟩
          unfold holdsN
          rw [anyN_t (show i < 5 by omega) e2]
          rfl
        · have h32 : ¬ waN r a b < waN r i b := fun q => h32 ((nI_ltI (by omega) (by omega)).mpr q)
          refine wp_iload_n (pc := 35) dX4_holds_35 rfl ?_
          refine wp_iload_n (pc := 36) dX4_holds_36 rfl ?_
          refine wp_iload (pc := 37) dX4_holds_37 rfl ?_
          refine wf_callSi (pc := 39) dX4_holds_39 cl_X4_15 (c_bachelors hr (by omega) (by omega)) rfl rfl (Nat.le_of_ble_eq_true rfl) (by decide) ⟨Nat.le_refl _, Nat.le_refl _⟩ (fun r39 M39 q39 => ?_)
          rw [q39.1, q39.2]
          refine wp_iload (pc := 42) dX4_holds_42 rfl ?_
          refine wp_icmp_le (pc := 44) 49 dX4_holds_44 (by decide) (fun h44 => ?_) (fun h44 => ?_)
          · have h44 : ¬ baN r a b < baN r a i := fun q => nI_ge q (by omega) h44
            have e2 : (fun o => decide (waN r a b < waN r o b) || decide (baN r a b < baN r a o)) i = false := by simp only [h32, h44, decide_false, Bool.or_false]
            refine wp_iinc1 (pc := 49) (L' := [_, _, _, _, _, _]) dX4_holds_49 rfl rfl rfl ?_
            refine wp_goto (pc := 52) 18 dX4_holds_52 (by decide) ?_
            exact ih (i + 1) (by omega) (by omega) (fun o ho => by rcases Nat.lt_succ_iff_lt_or_eq.mp ho with q | rfl; exact hf o q; exact e2)
          · have h44 : baN r a b < baN r a i := by rcases Nat.lt_or_ge (baN r a b) (baN r a i) with q | q; exact q; exact absurd (nI_le q (by omega)) h44
            have e2 : (fun o => decide (waN r a b < waN r o b) || decide (baN r a b < baN r a o)) i = true := by simp [h44]
            refine wp_ic (pc := 47) (x := nI 0) dX4_holds_47 ic_0 ?_
            refine wf_zret (pc := 48) (false) dX4_holds_48 rfl rfl ?_
            refine ⟨?_, rfl⟩
            unfold holdsN
            rw [anyN_t (show i < 5 by omega) e2]
            rfl
  refine wp_iload_n (pc := 0) dX4_holds_0 rfl ?_
  refine wp_iload_n (pc := 1) dX4_holds_1 rfl ?_
  refine wp_iload_n (pc := 2) dX4_holds_2 rfl ?_
  refine wf_callSi (pc := 3) dX4_holds_3 cl_X4_9 (c_wardens hr ha hb) rfl rfl (Nat.le_of_ble_eq_true rfl) (by decide) ⟨Nat.le_refl _, Nat.le_refl _⟩ (fun r3 M3 q3 => ?_)
  rw [q3.1, q3.2]
  refine wp_istore_n (pc := 6) (L' := [_, _, _, _, _, _]) dX4_holds_6 (Nat.le_of_ble_eq_true rfl) rfl rfl ?_
  refine wp_iload_n (pc := 7) dX4_holds_7 rfl ?_
  refine wp_iload_n (pc := 8) dX4_holds_8 rfl ?_
  refine wp_iload_n (pc := 9) dX4_holds_9 rfl ?_
  refine wf_callSi (pc := 10) dX4_holds_10 cl_X4_15 (c_bachelors hr ha hb) rfl rfl (Nat.le_of_ble_eq_true rfl) (by decide) ⟨Nat.le_refl _, Nat.le_refl _⟩ (fun r10 M10 q10 => ?_)
  rw [q10.1, q10.2]
  refine wp_istore (pc := 13) (L' := [_, _, _, _, _, _]) dX4_holds_13 (Nat.le_of_ble_eq_true rfl) rfl rfl ?_
  refine wp_ic (pc := 15) (x := nI 0) dX4_holds_15 ic_0 ?_
  refine wp_istore (pc := 16) (L' := [_, _, _, _, _, _]) dX4_holds_16 (Nat.le_of_ble_eq_true rfl) rfl rfl ?_
  exact loop 5 0 (by omega) (by omega) (fun o ho => absurd ho (by omega))
/-! acts -/
/-- the numbers are the same but in the cells lo .. hi - 1 -/
def Si (lo hi : Nat) (M M' : Mm) : Prop := ∀ a, (a < lo ∨ hi ≤ a) → ∀ k, M'.1 a k = M.1 a k
theorem Si.rf {lo hi : Nat} {M : Mm} : Si lo hi M M := fun _ _ _ => rfl
theorem Si.tr {lo hi : Nat} {M M1 M2 : Mm} (h1 : Si lo hi M M1) (h2 : Si lo hi M1 M2) : Si lo hi M M2 := fun a ha k => (h2 a ha k).trans (h1 a ha k)
theorem Si.up {lo hi lo' hi' : Nat} {M M1 : Mm} (h : Si lo hi M M1) (hl : lo' ≤ lo) (hh : hi ≤ hi') : Si lo' hi' M M1 := fun a ha k => h a (by omega) k
theorem XT.si {M M' : Mm} {lo hi t : Nat} {Λ : Lw} {P : Pg} (h : XT M t Λ P) (s : Si lo hi M M') (ho : t + 6 ≤ lo ∨ hi ≤ t) : XT M' t Λ P := by
  obtain ⟨h1, h2, h3, h4⟩ := h
  have e : ∀ i, i < 6 → ∀ k, M'.1 (t + i) k = M.1 (t + i) k := fun i hi k => s _ (by omega) k
  refine ⟨(e 0 (by omega) 0).trans h1, (e 0 (by omega) 1).trans h2, fun d hd => ?_, fun m hm => ?_⟩
  · rw [e 1 (by omega), e 2 (by omega)]; exact h3 d hd
  · rw [e 3 (by omega), e 4 (by omega), e 5 (by omega)]; exact h4 m hm
theorem XL.si {M M' : Mm} {lo hi w : Nat} {Λ : Lw} (h : XL M w Λ) (s : Si lo hi M M') (ho : w + 5 ≤ lo ∨ hi ≤ w) : XL M' w Λ := by
  obtain ⟨h1, h2, h3, h4, h5, h6⟩ := h
  have e : ∀ i, i < 5 → ∀ k, M'.1 (w + i) k = M.1 (w + i) k := fun i hi k => s _ (by omega) k
  have e0 := e 0 (by omega)
  rw [Nat.add_zero] at e0
  refine ⟨(e0 0).trans h1, (e0 1).trans h2, (e0 2).trans h3, fun m hm => ?_, fun i hi => ?_, fun d hd => ?_⟩
  · rw [e0 3]; exact h4 m hm
  · rw [e 1 (by omega)]; exact h5 i hi
  · rw [e 2 (by omega), e 3 (by omega), e 4 (by omega)]; exact h6 d hd
/-- the acts: a row of towns, in an order π of their cells -/
def XA (M : Mm) (Λ : Lw) (c : Nat) (A : Nat → Pg) : Prop := c ≤ 14 ∧ M.1 31 0 = nI c ∧ ∃ π : Nat → Nat, (∀ i, i < 14 → π i < 14) ∧ (∀ i j, i < 14 → j < 14 → π i = π j → i = j) ∧ (∀ i, i < 14 → M.2.2 32 i = some (33 + 6 * π i)) ∧ ∀ i, i < c → XT M (33 + 6 * π i) Λ (A i)
/-- references as they were but for the acts' row -/
def Ra (M M' : Mm) : Prop := M'.2.1 = M.2.1 ∧ ∀ a k, a ≠ 32 → M'.2.2 a k = M.2.2 a k
theorem Ra.rf {M : Mm} : Ra M M := ⟨rfl, fun _ _ _ => rfl⟩
theorem Ra.tr {M M1 M2 : Mm} (h1 : Ra M M1) (h2 : Ra M1 M2) : Ra M M2 := ⟨h2.1.trans h1.1, fun a k h => (h2.2 a k h).trans (h1.2 a k h)⟩
theorem Sm.ra {lo hi : Nat} {M M' : Mm} (h : Sm lo hi M M') : Ra M M' := ⟨by rw [h.1], fun a k _ => by rw [h.1]⟩
theorem rtab_32 (k : Nat) : rtab 32 k = none := rfl
theorem Ra.rs {M M' : Mm} (h : Ra M M') (hR : RS M) : RS M' := fun a k b q => by
  by_cases e : a = 32
  · subst e; rw [rtab_32] at q; cases q
  · rw [h.2 a k e]; exact hR a k b q
def nAc (c : Nat) : Nat := if c = 14 then 14 else c + 1
def nA (c : Nat) (A : Nat → Pg) (P : Pg) : Nat → Pg := fun i => if c = 14 then (if i < 13 then A (i + 1) else P) else (if i = c then P else A i)
theorem c_forgetFirst {l : Launch} {K : CtxT} {M : Mm} (hR : RS M) {π : Nat → Nat} (hπ : ∀ i, i < 14 → π i < 14) (hb : ∀ i, i < 14 → M.2.2 32 i = some (33 + 6 * π i)) : Cv l K 0 mX0_forgetFirst [.ref (K.1 + 31)] M (fun M' => (∀ i, i < 14 → M'.2.2 32 i = some (33 + 6 * π (if i < 13 then i + 1 else 0))) ∧ Ra M M' ∧ M'.1 = (wI M 31 0 (nI 13)).1) := by
  refine cv_of (L := [some (.ref (K.1 + 31)), none, none]) (by decide +kernel) (Nat.le_of_ble_eq_true rfl) rfl rfl (fun E => ?_)
  have loop : ∀ (n i : Nat) (M1 : Mm), n = 14 - i → i ≤ 14 → 1 ≤ i → M1.1 = M.1 → Ra M M1 → (∀ j, j < 14 → M1.2.2 32 j = some (33 + 6 * π (if j + 1 < i then j + 1 else j))) → Wp E K mX0_forgetFirst 0 (0, 0) 9 [some (.ref (K.1 + 31)), some (.ref (K.1 + (33 + 6 * π 0))), some (.int (nI i))] [] 168 M1 0 0 (zV E K (fun M' => (∀ i, i < 14 → M'.2.2 32 i = some (33 + 6 * π (if i < 13 then i + 1 else 0))) ∧ Ra M M' ∧ M'.1 = (wI M 31 0 (nI 13)).1)) := by
    intro n
    induction n with
    | zero =>
      intro i M1 hn hi h1 hM hra hj
      have hR := hra.rs hR
      refine wp_iload_n (pc := 9) dX0_forgetFirst_9 rfl ?_
      refine wp_bipush (pc := 10) (x := nI 14) dX0_forgetFirst_10 bp_14 ?_
      refine wp_icmp_ge (pc := 12) 35 dX0_forgetFirst_12 (by decide) (fun h12 => ?_) (fun h12 => ?_)
      · have e : i = 14 := by omega
        subst e
        refine wp_aload_n (pc := 35) dX0_forgetFirst_35 rfl ?_
        refine wf_getR (pc := 36) dX0_forgetFirst_36 fl_X0_17 lk_31 (hR _ _ _ rfl) ?_
        refine wp_bipush (pc := 39) (x := nI 13) dX0_forgetFirst_39 bp_13 ?_
        refine wp_aload_n (pc := 41) dX0_forgetFirst_41 rfl ?_
        refine wf_aastT (pc := 42) (j := 13) dX0_forgetFirst_42 lk_32 (IT_acts _ (hπ 0 (by omega))).1 rfl (by omega) ?_
        refine wp_aload_n (pc := 43) dX0_forgetFirst_43 rfl ?_
        refine wp_bipush (pc := 44) (x := nI 13) dX0_forgetFirst_44 bp_13 ?_
        refine wf_putI (pc := 46) dX0_forgetFirst_46 fl_X0_9 lk_31 ?_
        refine wf_vret (pc := 49) dX0_forgetFirst_49 rfl ?_
        refine ⟨fun i hi => ?_, ⟨hra.1, fun a k h => ?_⟩, ?_⟩
        · by_cases h13 : i = 13
          · subst h13; simp [wI, wR]
          · have := hj i hi
            rw [if_pos (by omega)] at this
            rw [if_pos (by omega), ← this]
            simp [wI, wR, h13]
        · simp only [wI, wR]; rw [if_neg (fun q => h q.1)]; exact hra.2 a k h
        · simp only [wI, wR, hM]
      · exact absurd (nI_le (by omega) (by omega)) h12
    | succ n ih =>
      intro i M1 hn hi h1 hM hra hj
      have hR := hra.rs hR
      refine wp_iload_n (pc := 9) dX0_forgetFirst_9 rfl ?_
      refine wp_bipush (pc := 10) (x := nI 14) dX0_forgetFirst_10 bp_14 ?_
      refine wp_icmp_ge (pc := 12) 35 dX0_forgetFirst_12 (by decide) (fun h12 => ?_) (fun h12 => ?_)
      · exact absurd h12 (nI_ge (by omega) (by omega))
      · refine wp_aload_n (pc := 15) dX0_forgetFirst_15 rfl ?_
        refine wf_getR (pc := 16) dX0_forgetFirst_16 fl_X0_17 lk_31 (hR _ _ _ rfl) ?_
        refine wp_iload_n (pc := 19) dX0_forgetFirst_19 rfl ?_
        refine wp_ic (pc := 20) (x := nI 1) dX0_forgetFirst_20 ic_1 ?_
        refine wp_isub (pc := 21) dX0_forgetFirst_21 ?_
        refine wp_aload_n (pc := 22) dX0_forgetFirst_22 rfl ?_
        refine wf_getR (pc := 23) dX0_forgetFirst_23 fl_X0_17 lk_31 (hR _ _ _ rfl) ?_
        refine wp_iload_n (pc := 26) dX0_forgetFirst_26 rfl ?_
        refine wf_aaldT (pc := 27) (j := i) dX0_forgetFirst_27 lk_32 rfl (by omega) (by rw [hj i (by omega), if_neg (by omega)]) ?_
        refine wf_aastT (pc := 28) (j := (i - 1)) dX0_forgetFirst_28 lk_32 (IT_acts _ (hπ i (by omega))).1 (by rw [pk_sub (by omega)]) (by omega) ?_
        refine wp_iinc1 (pc := 29) (L' := [_, _, _]) dX0_forgetFirst_29 rfl rfl rfl ?_
        refine wp_goto (pc := 32) 9 dX0_forgetFirst_32 (by decide) ?_
        refine ih (i + 1) _ (by omega) (by omega) (by omega) hM ⟨hra.1, fun a k h => ?_⟩ (fun j hj14 => ?_)
        · simp only [wR]; rw [if_neg (fun q => h q.1)]; exact hra.2 a k h
        · by_cases e : j = i - 1
          · subst e
            rw [if_pos (by omega)]
            simp only [wR]
            rw [if_pos ⟨by trivial, by trivial⟩]
            rw [show i - 1 + 1 = i by omega]
          · simp only [wR]
            rw [if_neg (fun q => e q.2), hj j hj14]
            by_cases e2 : j + 1 < i
            · rw [if_pos e2, if_pos (by omega)]
            · rw [if_neg e2, if_neg (by omega)]
  refine wp_aload_n (pc := 0) dX0_forgetFirst_0 rfl ?_
  refine wf_getR (pc := 1) dX0_forgetFirst_1 fl_X0_17 lk_31 (hR _ _ _ rfl) ?_
  refine wp_ic (pc := 4) (x := nI 0) dX0_forgetFirst_4 ic_0 ?_
  refine wf_aaldT (pc := 5) (j := 0) dX0_forgetFirst_5 lk_32 rfl (by omega) (hb 0 (by omega)) ?_
  refine wp_astore_n (pc := 6) (L' := [_, _, _]) dX0_forgetFirst_6 (Nat.le_of_ble_eq_true rfl) rfl rfl ?_
  refine wp_ic (pc := 7) (x := nI 1) dX0_forgetFirst_7 ic_1 ?_
  refine wp_istore_n (pc := 8) (L' := [_, _, _]) dX0_forgetFirst_8 (Nat.le_of_ble_eq_true rfl) rfl rfl ?_
  refine loop 13 1 M (by omega) (by omega) (by omega) rfl Ra.rf (fun j hj => ?_)
  rw [hb j hj, if_neg (by omega)]
