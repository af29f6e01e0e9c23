/-! rests -/
def rsB (r k : Nat) : Bool := holdsN r (k / 5) (k % 5)
def fstR (r : Nat) : Nat → Int32
  | 0 => no9
  | k + 1 => if rsB r k = true ∧ cntC (rsB r) k = 0 then nI (10 * (k / 5) + k % 5) else fstR r k
def oRests (x w : Int32) : Int32 := if rg 0 99999 x = true ∧ rg 0 1 w = true then (if w.toNatClampNeg = 0 then nI (cntC (rsB x.toNatClampNeg) 25) else fstR x.toNatClampNeg 25) else -2
theorem cntC_le (f : Nat → Bool) : ∀ k, cntC f k ≤ k
  | 0 => Nat.le_refl _
  | k + 1 => by
    have := cntC_le f k
    unfold cntC
    split <;> omega
theorem c_rests {l : Launch} {K : CtxT} {M : Mm} {s : Sv} (H : XI M s) {x w : Int32} : Ci l K 3 mX8_rests [.ref (K.1 + 0), .int x, .int w] M (fun r M' => r = oRests x w ∧ XI M' s ∧ Fr M M') := by
  refine ci_of (L := [some (.ref (K.1 + 0)), some (.int x), some (.int w), none, none, none, none, none]) (by decide +kernel) (Nat.le_of_ble_eq_true rfl) rfl rfl (fun E => ?_)
  have loop : ∀ (x w : Nat), x ≤ 99999 → w ≤ 1 → ∀ (n k : Nat) (z1 z2 : Option Value), n = 25 - k → k ≤ 25 → Wp E K mX8_rests 3 (0, 0) 31 [some (.ref (K.1 + 0)), some (.int (nI x)), some (.int (nI w)), some (.int (nI (cntC (rsB x) k))), some (.int (fstR x k)), some (.int (nI k)), z1, z2] [] 168 M 0 0 (zI E K (fun r M' => r = oRests (nI x) (nI w) ∧ XI M' s ∧ Fr M M')) := by
    intro x w hx hw n
    induction n with
    | zero =>
      intro k z1 z2 hn hk
      refine wp_iload (pc := 31) dX8_rests_31 rfl ?_
      refine wp_bipush (pc := 33) (x := nI 25) dX8_rests_33 bp_25 ?_
      refine wp_icmp_ge (pc := 35) 89 dX8_rests_35 (by decide) (fun h35 => ?_) (fun h35 => ?_)
      · have e : k = 25 := by omega
        subst e
        refine wp_iload_n (pc := 89) dX8_rests_89 rfl ?_
        refine wp_if_ne (pc := 90) 97 dX8_rests_90 (by decide) (fun h90 => ?_) (fun h90 => ?_)
        · have e5 : ¬ w = 0 := fun q => h90 (by rw [q]; rfl)
          refine wp_iload (pc := 97) dX8_rests_97 rfl ?_
          refine wf_iret (pc := 99) dX8_rests_99 rfl ?_
          unfold oRests
          rw [if_pos ⟨rg_y (nI_nlt (Nat.zero_le _) (by omega)) (nI_nlt hx (by omega)), rg_y (nI_nlt (Nat.zero_le _) (by omega)) (nI_nlt hw (by omega))⟩, nI_cl (by omega), nI_cl (by omega)]
          first | rw [if_pos e5] | rw [if_neg e5]
          exact ⟨rfl, H, Fr.rf⟩
        · have e5 : w = 0 := (nI_eq (by omega) (by decide)).mp h90
          refine wp_iload_n (pc := 93) dX8_rests_93 rfl ?_
          refine wp_goto (pc := 94) 99 dX8_rests_94 (by decide) ?_
          refine wf_iret (pc := 99) dX8_rests_99 rfl ?_
          unfold oRests
          rw [if_pos ⟨rg_y (nI_nlt (Nat.zero_le _) (by omega)) (nI_nlt hx (by omega)), rg_y (nI_nlt (Nat.zero_le _) (by omega)) (nI_nlt hw (by omega))⟩, nI_cl (by omega), nI_cl (by omega)]
          first | rw [if_pos e5] | rw [if_neg e5]
          exact ⟨rfl, H, Fr.rf⟩
      · exact absurd (nI_le (by omega) (by omega)) h35
    | succ n ih =>
      intro k z1 z2 hn hk
      have hc := cntC_le (rsB x) k
      refine wp_iload (pc := 31) dX8_rests_31 rfl ?_
      refine wp_bipush (pc := 33) (x := nI 25) dX8_rests_33 bp_25 ?_
      refine wp_icmp_ge (pc := 35) 89 dX8_rests_35 (by decide) (fun h35 => ?_) (fun h35 => ?_)
      · exact absurd h35 (nI_ge (by omega) (by omega))
      · refine wp_iload (pc := 38) dX8_rests_38 rfl ?_
        refine wp_ic (pc := 40) (x := nI 5) dX8_rests_40 ic_5 ?_
        refine wp_idivN (pc := 41) dX8_rests_41 rfl rfl (by omega) (by decide) (by decide) ?_
        refine wp_istore (pc := 42) (L' := [_, _, _, _, _, _, _, _]) dX8_rests_42 (Nat.le_of_ble_eq_true rfl) rfl rfl ?_
        refine wp_iload (pc := 44) dX8_rests_44 rfl ?_
        refine wp_ic (pc := 46) (x := nI 5) dX8_rests_46 ic_5 ?_
        refine wp_iremN (pc := 47) dX8_rests_47 rfl rfl (by omega) (by decide) (by decide) ?_
        refine wp_istore (pc := 48) (L' := [_, _, _, _, _, _, _, _]) dX8_rests_48 (Nat.le_of_ble_eq_true rfl) rfl rfl ?_
        refine wp_iload_n (pc := 50) dX8_rests_50 rfl ?_
        refine wp_iload (pc := 51) dX8_rests_51 rfl ?_
        refine wp_iload (pc := 53) dX8_rests_53 rfl ?_
        refine wf_callSi (pc := 55) dX8_rests_55 cl_X8_228 (c_rest_holds hx (by omega) (by omega)) rfl rfl (Nat.le_of_ble_eq_true rfl) (by decide) ⟨Nat.le_refl _, Nat.le_refl _⟩ (fun r55 M55 q55 => ?_)
        rw [q55.1, q55.2]
        refine wp_if_eq (pc := 58) 83 dX8_rests_58 (by decide) (fun h58 => ?_) (fun h58 => ?_)
        · have h58 := b2i_0 h58
          have h58 : ¬ rsB x k = true := by show ¬ holdsN x (k / 5) (k % 5) = true; rw [h58]; decide
          have e1 : cntC (rsB x) (k + 1) = cntC (rsB x) k := by show cntC (rsB x) k + (if rsB x k = true then 1 else 0) = _; rw [if_neg h58, Nat.add_zero]
          have e2 : fstR x (k + 1) = fstR x k := if_neg (fun q => h58 q.1)
          refine wp_iinc1 (pc := 83) (L' := [_, _, _, _, _, _, _, _]) dX8_rests_83 rfl rfl rfl ?_
          refine wp_goto (pc := 86) 31 dX8_rests_86 (by decide) ?_
          have := ih (k + 1) (some (.int (nI (k / 5)))) (some (.int (nI (k % 5)))) (by omega) (by omega)
          rw [e1, e2] at this
          exact this
        · have h58 := b2i_1 h58
          have h58 : rsB x k = true := h58
          have e1 : cntC (rsB x) (k + 1) = cntC (rsB x) k + 1 := by show cntC (rsB x) k + (if rsB x k = true then 1 else 0) = _; rw [if_pos h58]
          refine wp_iload_n (pc := 61) dX8_rests_61 rfl ?_
          refine wp_if_ne (pc := 62) 76 dX8_rests_62 (by decide) (fun h62 => ?_) (fun h62 => ?_)
          · have e2 : fstR x (k + 1) = fstR x k := if_neg (fun q => h62 (by rw [q.2]; rfl))
            refine wp_iload (pc := 76) dX8_rests_76 rfl ?_
            refine wp_istore (pc := 78) (L' := [_, _, _, _, _, _, _, _]) dX8_rests_78 (Nat.le_of_ble_eq_true rfl) rfl rfl ?_
            refine wp_iinc1 (pc := 80) (L' := [_, _, _, _, _, _, _, _]) dX8_rests_80 rfl rfl rfl ?_
            refine wp_iinc1 (pc := 83) (L' := [_, _, _, _, _, _, _, _]) dX8_rests_83 rfl rfl rfl ?_
            refine wp_goto (pc := 86) 31 dX8_rests_86 (by decide) ?_
            have := ih (k + 1) (some (.int (nI (k / 5)))) (some (.int (nI (k % 5)))) (by omega) (by omega)
            rw [e1, e2] at this
            exact this
          · have e2 : fstR x (k + 1) = nI (10 * (k / 5) + k % 5) := if_pos ⟨h58, (nI_eq (by omega) (by decide)).mp h62⟩
            refine wp_bipush (pc := 65) (x := nI 10) dX8_rests_65 bp_10 ?_
            refine wp_iload (pc := 67) dX8_rests_67 rfl ?_
            refine wp_imul (pc := 69) dX8_rests_69 ?_
            refine wp_iload (pc := 70) dX8_rests_70 rfl ?_
            refine wp_iadd (pc := 72) dX8_rests_72 ?_
            refine wp_top (nI (10 * (k / 5) + k % 5)) (by rw [pk_mul, nI_add]) ?_
            refine wp_goto (pc := 73) 78 dX8_rests_73 (by decide) ?_
            refine wp_istore (pc := 78) (L' := [_, _, _, _, _, _, _, _]) dX8_rests_78 (Nat.le_of_ble_eq_true rfl) rfl rfl ?_
            refine wp_iinc1 (pc := 80) (L' := [_, _, _, _, _, _, _, _]) dX8_rests_80 rfl rfl rfl ?_
            refine wp_iinc1 (pc := 83) (L' := [_, _, _, _, _, _, _, _]) dX8_rests_83 rfl rfl rfl ?_
            refine wp_goto (pc := 86) 31 dX8_rests_86 (by decide) ?_
            have := ih (k + 1) (some (.int (nI (k / 5)))) (some (.int (nI (k % 5)))) (by omega) (by omega)
            rw [e1, e2] at this
            exact this
  refine wp_iload_n (pc := 0) dX8_rests_0 rfl ?_
  refine wp_if_lt (pc := 1) 19 dX8_rests_1 (by decide) (fun h1 => ?_) (fun h1 => ?_)
  · have e : ¬ (rg 0 99999 x = true ∧ rg 0 1 w = true) := fun q => by rw [rg_n1 h1] at q; simp at q
    refine wp_bipush (pc := 19) (x := (-2)) dX8_rests_19 bp_m2 ?_
    refine wf_iret (pc := 21) dX8_rests_21 rfl ?_
    unfold oRests; rw [if_neg e]
    exact ⟨rfl, H, Fr.rf⟩
  · refine wp_iload_n (pc := 4) dX8_rests_4 rfl ?_
    refine wp_ldc (pc := 5) dX8_rests_5 kc_X8_227 ?_
    refine wp_top (nI 99999) (by decide) ?_
    refine wp_icmp_gt (pc := 7) 19 dX8_rests_7 (by decide) (fun h7 => ?_) (fun h7 => ?_)
    · have e : ¬ (rg 0 99999 x = true ∧ rg 0 1 w = true) := fun q => by rw [rg_n2 h7] at q; simp at q
      refine wp_bipush (pc := 19) (x := (-2)) dX8_rests_19 bp_m2 ?_
      refine wf_iret (pc := 21) dX8_rests_21 rfl ?_
      unfold oRests; rw [if_neg e]
      exact ⟨rfl, H, Fr.rf⟩
    · have e1 : rg 0 99999 x = true := rg_y h1 h7
      refine wp_iload_n (pc := 10) dX8_rests_10 rfl ?_
      refine wp_if_lt (pc := 11) 19 dX8_rests_11 (by decide) (fun h11 => ?_) (fun h11 => ?_)
      · have e : ¬ (rg 0 99999 x = true ∧ rg 0 1 w = true) := fun q => by rw [rg_n1 (x := w) h11] at q; simp at q
        refine wp_bipush (pc := 19) (x := (-2)) dX8_rests_19 bp_m2 ?_
        refine wf_iret (pc := 21) dX8_rests_21 rfl ?_
        unfold oRests; rw [if_neg e]
        exact ⟨rfl, H, Fr.rf⟩
      · refine wp_iload_n (pc := 14) dX8_rests_14 rfl ?_
        refine wp_ic (pc := 15) (x := nI 1) dX8_rests_15 ic_1 ?_
        refine wp_icmp_le (pc := 16) 22 dX8_rests_16 (by decide) (fun h16 => ?_) (fun h16 => ?_)
        · have e2 : rg 0 1 w = true := rg_y3 h11 h16
          obtain ⟨n, -, n1, en⟩ := rg_of e1 (by decide) (by decide)
          obtain ⟨u, -, u1, eu⟩ := rg_of e2 (by decide) (by decide)
          subst en eu
          refine wp_ic (pc := 22) (x := nI 0) dX8_rests_22 ic_0 ?_
          refine wp_istore_n (pc := 23) (L' := [_, _, _, _, _, _, _, _]) dX8_rests_23 (Nat.le_of_ble_eq_true rfl) rfl rfl ?_
          refine wp_bipush (pc := 24) (x := (-9)) dX8_rests_24 bp_m9 ?_
          refine wp_istore (pc := 26) (L' := [_, _, _, _, _, _, _, _]) dX8_rests_26 (Nat.le_of_ble_eq_true rfl) rfl rfl ?_
          refine wp_ic (pc := 28) (x := nI 0) dX8_rests_28 ic_0 ?_
          refine wp_istore (pc := 29) (L' := [_, _, _, _, _, _, _, _]) dX8_rests_29 (Nat.le_of_ble_eq_true rfl) rfl rfl ?_
          exact loop n u n1 u1 25 0 none none (by omega) (by omega)
        · have e : ¬ (rg 0 99999 x = true ∧ rg 0 1 w = true) := fun q => by rw [rg_n3 (x := w) h16] at q; simp at q
          refine wp_bipush (pc := 19) (x := (-2)) dX8_rests_19 bp_m2 ?_
          refine wf_iret (pc := 21) dX8_rests_21 rfl ?_
          unfold oRests; rw [if_neg e]
          exact ⟨rfl, H, Fr.rf⟩
/-! chances -/
/-- in how many of the first k rounds a man is caught -/
def abN (s : Sv) (m n : Nat) : Nat → Nat
  | 0 => 0
  | k + 1 => abN s m n k + (tryP s.Λ s.P s.h k (lLe s.Λ) n).1.toNatClampNeg / 2 ^ m % 2
theorem abN_le (s : Sv) (m n : Nat) : ∀ k, abN s m n k ≤ k
  | 0 => Nat.le_refl _
  | k + 1 => by
    have := abN_le s m n k
    have h2 := Nat.mod_lt ((tryP s.Λ s.P s.h k (lLe s.Λ) n).1.toNatClampNeg / 2 ^ m) (show 0 < 2 by decide)
    unfold abN
    omega
def shaN (A : Nat) : Nat := if A = 0 ∨ A = 4 then 4 else if A = 2 then 2 else 1
def chN (A : Nat) (u : Bool) : Int32 := if u = true then nI (A / shaN A) else nI (4 / shaN A)
def oChance (s : Sv) (y x : Int32) (u : Bool) : Int32 := if inD y (lM s.Λ) = true then (if rg 0 24 x = true then chN (abN s y.toNatClampNeg x.toNatClampNeg 4) u else -2) else -1
theorem bat_nI {a m : Nat} (ha : a < 32) (hm : m < 5) : bat (nI a) m = nI (a / 2 ^ m % 2) := by
  have e : ∀ a, a < 32 → ∀ m, m < 5 → bat (nI a) m = nI (a / 2 ^ m % 2) := by decide +kernel
  exact e a ha m hm
theorem c_chance {l : Launch} {K : CtxT} {M : Mm} {s : Sv} {B : Nat} (H : XI M s) (V : OkV B s) (hB : B ≤ 9999) {y x : Int32} {u : Bool} : Ci l K 5 mX8_chance [.ref (K.1 + 0), .int y, .int x, .int (b2i u)] M (fun r M' => r = oChance s y x u ∧ XI M' s ∧ Fr M M') := by
  refine ci_of (L := [some (.ref (K.1 + 0)), some (.int y), some (.int x), some (.int (b2i u)), none, none]) (by decide +kernel) (Nat.le_of_ble_eq_true rfl) rfl rfl (fun E => ?_)
  have loop : ∀ (m n : Nat), m < lM s.Λ → n ≤ 24 → ∀ (n' k : Nat) (M1 : Mm), n' = 4 - k → k ≤ 4 → Sm 25 31 M M1 → Wp E K mX8_chance 5 (0, 0) 32 [some (.ref (K.1 + 0)), some (.int (nI m)), some (.int (nI n)), some (.int (b2i u)), some (.int (nI (abN s m n k))), some (.int (nI k))] [] 168 M1 0 0 (zI E K (fun r M' => r = oChance s (nI m) (nI n) u ∧ XI M' s ∧ Fr M M')) := by
    intro m n hm hn n'
    have hm5 := V.l.2.1
    induction n' with
    | zero =>
      intro k M1 hn1 hk s1
      refine wp_iload (pc := 32) dX8_chance_32 rfl ?_
      refine wp_ic (pc := 34) (x := nI 4) dX8_chance_34 ic_4 ?_
      refine wp_icmp_ge (pc := 35) 67 dX8_chance_35 (by decide) (fun h35 => ?_) (fun h35 => ?_)
      · have e : k = 4 := by omega
        subst e
        refine wp_iload (pc := 67) dX8_chance_67 rfl ?_
        refine wp_if_eq (pc := 69) 78 dX8_chance_69 (by decide) (fun h69 => ?_) (fun h69 => ?_)
        · first | skip
          refine wp_ic (pc := 78) (x := nI 4) dX8_chance_78 ic_4 ?_
          refine wp_goto (pc := 79) 93 dX8_chance_79 (by decide) ?_
          refine wp_istore (pc := 93) (L' := [_, _, _, _, _, _]) dX8_chance_93 (Nat.le_of_ble_eq_true rfl) rfl rfl ?_
          refine wp_iload_n (pc := 95) dX8_chance_95 rfl ?_
          refine wp_if_eq (pc := 96) 107 dX8_chance_96 (by decide) (fun h96 => ?_) (fun h96 => ?_)
          · have h96 := b2i_0 h96
            refine wp_ic (pc := 107) (x := nI 4) dX8_chance_107 ic_4 ?_
            refine wp_iload (pc := 108) dX8_chance_108 rfl ?_
            refine wp_idiv (pc := 110) dX8_chance_110 (by decide) ?_
            refine wf_iret (pc := 111) dX8_chance_111 rfl ?_
            unfold oChance
            rw [if_pos (inD_nI (by omega) hm), if_pos (rg_y (nI_nlt (Nat.zero_le _) (by omega)) (nI_nlt hn (by omega))), nI_cl (by omega), nI_cl (by omega)]
            refine ⟨?_, H.scr s1 (by omega), s1.fr (by decide)⟩
            have hA := abN_le s m n 4
            generalize abN s m n 4 = A at *
            rw [h96]
            rcases (show A = 0 ∨ A = 1 ∨ A = 2 ∨ A = 3 ∨ A = 4 by omega) with e | e | e | e | e <;> subst e <;> first | decide | (exact absurd h69 (by decide)) | (exact absurd h75 (by decide)) | (exact absurd h85 (by decide))
          · have h96 := b2i_1 h96
            refine wp_iload (pc := 99) dX8_chance_99 rfl ?_
            refine wp_iload (pc := 101) dX8_chance_101 rfl ?_
            refine wp_idiv (pc := 103) dX8_chance_103 (by decide) ?_
            refine wp_goto (pc := 104) 111 dX8_chance_104 (by decide) ?_
            refine wf_iret (pc := 111) dX8_chance_111 rfl ?_
            unfold oChance
            rw [if_pos (inD_nI (by omega) hm), if_pos (rg_y (nI_nlt (Nat.zero_le _) (by omega)) (nI_nlt hn (by omega))), nI_cl (by omega), nI_cl (by omega)]
            refine ⟨?_, H.scr s1 (by omega), s1.fr (by decide)⟩
            have hA := abN_le s m n 4
            generalize abN s m n 4 = A at *
            rw [h96]
            rcases (show A = 0 ∨ A = 1 ∨ A = 2 ∨ A = 3 ∨ A = 4 by omega) with e | e | e | e | e <;> subst e <;> first | decide | (exact absurd h69 (by decide)) | (exact absurd h75 (by decide)) | (exact absurd h85 (by decide))
        · refine wp_iload (pc := 72) dX8_chance_72 rfl ?_
          refine wp_ic (pc := 74) (x := nI 4) dX8_chance_74 ic_4 ?_
          refine wp_icmp_ne (pc := 75) 82 dX8_chance_75 (by decide) (fun h75 => ?_) (fun h75 => ?_)
          · refine wp_iload (pc := 82) dX8_chance_82 rfl ?_
            refine wp_ic (pc := 84) (x := nI 2) dX8_chance_84 ic_2 ?_
            refine wp_icmp_ne (pc := 85) 92 dX8_chance_85 (by decide) (fun h85 => ?_) (fun h85 => ?_)
            · refine wp_ic (pc := 92) (x := nI 1) dX8_chance_92 ic_1 ?_
              refine wp_istore (pc := 93) (L' := [_, _, _, _, _, _]) dX8_chance_93 (Nat.le_of_ble_eq_true rfl) rfl rfl ?_
              refine wp_iload_n (pc := 95) dX8_chance_95 rfl ?_
              refine wp_if_eq (pc := 96) 107 dX8_chance_96 (by decide) (fun h96 => ?_) (fun h96 => ?_)
              · have h96 := b2i_0 h96
                refine wp_ic (pc := 107) (x := nI 4) dX8_chance_107 ic_4 ?_
                refine wp_iload (pc := 108) dX8_chance_108 rfl ?_
                refine wp_idiv (pc := 110) dX8_chance_110 (by decide) ?_
                refine wf_iret (pc := 111) dX8_chance_111 rfl ?_
                unfold oChance
                rw [if_pos (inD_nI (by omega) hm), if_pos (rg_y (nI_nlt (Nat.zero_le _) (by omega)) (nI_nlt hn (by omega))), nI_cl (by omega), nI_cl (by omega)]
                refine ⟨?_, H.scr s1 (by omega), s1.fr (by decide)⟩
                have hA := abN_le s m n 4
                generalize abN s m n 4 = A at *
                rw [h96]
                rcases (show A = 0 ∨ A = 1 ∨ A = 2 ∨ A = 3 ∨ A = 4 by omega) with e | e | e | e | e <;> subst e <;> first | decide | (exact absurd h69 (by decide)) | (exact absurd h75 (by decide)) | (exact absurd h85 (by decide))
              · have h96 := b2i_1 h96
                refine wp_iload (pc := 99) dX8_chance_99 rfl ?_
                refine wp_iload (pc := 101) dX8_chance_101 rfl ?_
                refine wp_idiv (pc := 103) dX8_chance_103 (by decide) ?_
                refine wp_goto (pc := 104) 111 dX8_chance_104 (by decide) ?_
                refine wf_iret (pc := 111) dX8_chance_111 rfl ?_
                unfold oChance
                rw [if_pos (inD_nI (by omega) hm), if_pos (rg_y (nI_nlt (Nat.zero_le _) (by omega)) (nI_nlt hn (by omega))), nI_cl (by omega), nI_cl (by omega)]
                refine ⟨?_, H.scr s1 (by omega), s1.fr (by decide)⟩
                have hA := abN_le s m n 4
                generalize abN s m n 4 = A at *
                rw [h96]
                rcases (show A = 0 ∨ A = 1 ∨ A = 2 ∨ A = 3 ∨ A = 4 by omega) with e | e | e | e | e <;> subst e <;> first | decide | (exact absurd h69 (by decide)) | (exact absurd h75 (by decide)) | (exact absurd h85 (by decide))
            · refine wp_ic (pc := 88) (x := nI 2) dX8_chance_88 ic_2 ?_
              refine wp_goto (pc := 89) 93 dX8_chance_89 (by decide) ?_
              refine wp_istore (pc := 93) (L' := [_, _, _, _, _, _]) dX8_chance_93 (Nat.le_of_ble_eq_true rfl) rfl rfl ?_
              refine wp_iload_n (pc := 95) dX8_chance_95 rfl ?_
              refine wp_if_eq (pc := 96) 107 dX8_chance_96 (by decide) (fun h96 => ?_) (fun h96 => ?_)
              · have h96 := b2i_0 h96
                refine wp_ic (pc := 107) (x := nI 4) dX8_chance_107 ic_4 ?_
                refine wp_iload (pc := 108) dX8_chance_108 rfl ?_
                refine wp_idiv (pc := 110) dX8_chance_110 (by decide) ?_
                refine wf_iret (pc := 111) dX8_chance_111 rfl ?_
                unfold oChance
                rw [if_pos (inD_nI (by omega) hm), if_pos (rg_y (nI_nlt (Nat.zero_le _) (by omega)) (nI_nlt hn (by omega))), nI_cl (by omega), nI_cl (by omega)]
                refine ⟨?_, H.scr s1 (by omega), s1.fr (by decide)⟩
                have hA := abN_le s m n 4
                generalize abN s m n 4 = A at *
                rw [h96]
                rcases (show A = 0 ∨ A = 1 ∨ A = 2 ∨ A = 3 ∨ A = 4 by omega) with e | e | e | e | e <;> subst e <;> first | decide | (exact absurd h69 (by decide)) | (exact absurd h75 (by decide)) | (exact absurd h85 (by decide))
              · have h96 := b2i_1 h96
                refine wp_iload (pc := 99) dX8_chance_99 rfl ?_
                refine wp_iload (pc := 101) dX8_chance_101 rfl ?_
                refine wp_idiv (pc := 103) dX8_chance_103 (by decide) ?_
                refine wp_goto (pc := 104) 111 dX8_chance_104 (by decide) ?_
                refine wf_iret (pc := 111) dX8_chance_111 rfl ?_
                unfold oChance
                rw [if_pos (inD_nI (by omega) hm), if_pos (rg_y (nI_nlt (Nat.zero_le _) (by omega)) (nI_nlt hn (by omega))), nI_cl (by omega), nI_cl (by omega)]
                refine ⟨?_, H.scr s1 (by omega), s1.fr (by decide)⟩
                have hA := abN_le s m n 4
                generalize abN s m n 4 = A at *
                rw [h96]
                rcases (show A = 0 ∨ A = 1 ∨ A = 2 ∨ A = 3 ∨ A = 4 by omega) with e | e | e | e | e <;> subst e <;> first | decide | (exact absurd h69 (by decide)) | (exact absurd h75 (by decide)) | (exact absurd h85 (by decide))
          · first | skip
            refine wp_ic (pc := 78) (x := nI 4) dX8_chance_78 ic_4 ?_
            refine wp_goto (pc := 79) 93 dX8_chance_79 (by decide) ?_
            refine wp_istore (pc := 93) (L' := [_, _, _, _, _, _]) dX8_chance_93 (Nat.le_of_ble_eq_true rfl) rfl rfl ?_
            refine wp_iload_n (pc := 95) dX8_chance_95 rfl ?_
            refine wp_if_eq (pc := 96) 107 dX8_chance_96 (by decide) (fun h96 => ?_) (fun h96 => ?_)
            · have h96 := b2i_0 h96
              refine wp_ic (pc := 107) (x := nI 4) dX8_chance_107 ic_4 ?_
              refine wp_iload (pc := 108) dX8_chance_108 rfl ?_
              refine wp_idiv (pc := 110) dX8_chance_110 (by decide) ?_
              refine wf_iret (pc := 111) dX8_chance_111 rfl ?_
              unfold oChance
              rw [if_pos (inD_nI (by omega) hm), if_pos (rg_y (nI_nlt (Nat.zero_le _) (by omega)) (nI_nlt hn (by omega))), nI_cl (by omega), nI_cl (by omega)]
              refine ⟨?_, H.scr s1 (by omega), s1.fr (by decide)⟩
              have hA := abN_le s m n 4
              generalize abN s m n 4 = A at *
              rw [h96]
              rcases (show A = 0 ∨ A = 1 ∨ A = 2 ∨ A = 3 ∨ A = 4 by omega) with e | e | e | e | e <;> subst e <;> first | decide | (exact absurd h69 (by decide)) | (exact absurd h75 (by decide)) | (exact absurd h85 (by decide))
            · have h96 := b2i_1 h96
              refine wp_iload (pc := 99) dX8_chance_99 rfl ?_
              refine wp_iload (pc := 101) dX8_chance_101 rfl ?_
              refine wp_idiv (pc := 103) dX8_chance_103 (by decide) ?_
              refine wp_goto (pc := 104) 111 dX8_chance_104 (by decide) ?_
              refine wf_iret (pc := 111) dX8_chance_111 rfl ?_
              unfold oChance
              rw [if_pos (inD_nI (by omega) hm), if_pos (rg_y (nI_nlt (Nat.zero_le _) (by omega)) (nI_nlt hn (by omega))), nI_cl (by omega), nI_cl (by omega)]
              refine ⟨?_, H.scr s1 (by omega), s1.fr (by decide)⟩
              have hA := abN_le s m n 4
              generalize abN s m n 4 = A at *
              rw [h96]
              rcases (show A = 0 ∨ A = 1 ∨ A = 2 ∨ A = 3 ∨ A = 4 by omega) with e | e | e | e | e <;> subst e <;> first | decide | (exact absurd h69 (by decide)) | (exact absurd h75 (by decide)) | (exact absurd h85 (by decide))
      · exact absurd (nI_le (by omega) (by omega)) h35
    | succ n' ih =>
      intro k M1 hn1 hk s1
      have H1 := H.scr s1 (by omega)
      obtain ⟨o1, a, o2, o3⟩ := tryP_ok V.p V.l.N k (lLe s.Λ) n
      refine wp_iload (pc := 32) dX8_chance_32 rfl ?_
      refine wp_ic (pc := 34) (x := nI 4) dX8_chance_34 ic_4 ?_
      refine wp_icmp_ge (pc := 35) 67 dX8_chance_35 (by decide) (fun h35 => ?_) (fun h35 => ?_)
      · exact absurd h35 (nI_ge (by omega) (by omega))
      · refine wp_iload (pc := 38) dX8_chance_38 rfl ?_
        refine wp_aload_n (pc := 40) dX8_chance_40 rfl ?_
        refine wp_iload_n (pc := 41) dX8_chance_41 rfl ?_
        refine wp_aload_n (pc := 42) dX8_chance_42 rfl ?_
        refine wf_getR (pc := 43) dX8_chance_43 fl_X8_27 lk_0 (H1.r 0 3 14 rfl) ?_
        refine wf_getI (pc := 46) dX8_chance_46 fl_X8_96 IL_14.1 ?_
        rw [H1.l.2.2.1]
        refine wp_iload (pc := 49) dX8_chance_49 rfl ?_
        refine wf_callVi (pc := 51) dX8_chance_51 cl_X8_182 (c_tryHours H1 V hB (by omega) (by omega)) lk_0 rfl rfl rfl rfl (Nat.le_of_ble_eq_true rfl) (by decide) ⟨Nat.le_refl _, Nat.le_refl _⟩ (fun r51 M51 q51 => ?_)
        refine wp_iload_n (pc := 54) dX8_chance_54 rfl ?_
        refine wp_ishr (pc := 55) dX8_chance_55 ?_
        refine wp_ic (pc := 56) (x := nI 1) dX8_chance_56 ic_1 ?_
        refine wp_iand (pc := 57) dX8_chance_57 ?_
        refine wp_iadd (pc := 58) dX8_chance_58 ?_
        refine wp_top (nI (abN s m n (k + 1))) (by rw [q51.1, o3]; show nI (abN s m n k) + bat (nI a) m = _; rw [bat_nI o2 (by omega), nI_add]; show _ = nI (abN s m n k + (tryP s.Λ s.P s.h k (lLe s.Λ) n).1.toNatClampNeg / 2 ^ m % 2); rw [o3, nI_cl (by omega)]) ?_
        refine wp_istore (pc := 59) (L' := [_, _, _, _, _, _]) dX8_chance_59 (Nat.le_of_ble_eq_true rfl) rfl rfl ?_
        refine wp_iinc1 (pc := 61) (L' := [_, _, _, _, _, _]) dX8_chance_61 rfl rfl rfl ?_
        refine wp_goto (pc := 64) 32 dX8_chance_64 (by decide) ?_
        exact ih (k + 1) M51 (by omega) (by omega) (s1.tr q51.2.2)
  refine wp_aload_n (pc := 0) dX8_chance_0 rfl ?_
  refine wf_getR (pc := 1) dX8_chance_1 fl_X8_27 lk_0 (H.r 0 3 14 rfl) ?_
  refine wp_iload_n (pc := 4) dX8_chance_4 rfl ?_
  refine wf_callVi (pc := 5) dX8_chance_5 cl_X8_143 (c_hasMan IL_14 H.r V.l.N H.l) IL_14.1 rfl rfl rfl rfl (Nat.le_of_ble_eq_true rfl) (by decide) ⟨Nat.le_refl _, Nat.le_refl _⟩ (fun r5 M5 q5 => ?_)
  rw [q5.1, q5.2]
  refine wp_if_ne (pc := 8) 13 dX8_chance_8 (by decide) (fun h8 => ?_) (fun h8 => ?_)
  · have h8 := b2i_1 h8
    obtain ⟨m, hm, em⟩ := inD_of (by assumption) (show lM s.Λ < 2 ^ 31 by have := V.l.N.2.1; omega)
    have hm4 : m < 5 := Nat.lt_of_lt_of_le hm V.l.N.2.1
    subst em
    refine wp_iload_n (pc := 13) dX8_chance_13 rfl ?_
    refine wp_if_lt (pc := 14) 23 dX8_chance_14 (by decide) (fun h14 => ?_) (fun h14 => ?_)
    · have e : rg 0 24 x = false := rg_n1 h14
      refine wp_bipush (pc := 23) (x := (-2)) dX8_chance_23 bp_m2 ?_
      refine wf_iret (pc := 25) dX8_chance_25 rfl ?_
      unfold oChance; rw [if_pos h8, e]
      exact ⟨rfl, H, Fr.rf⟩
    · refine wp_iload_n (pc := 17) dX8_chance_17 rfl ?_
      refine wp_bipush (pc := 18) (x := nI 24) dX8_chance_18 bp_24 ?_
      refine wp_icmp_le (pc := 20) 26 dX8_chance_20 (by decide) (fun h20 => ?_) (fun h20 => ?_)
      · have e : rg 0 24 x = true := rg_y3 h14 h20
        obtain ⟨n, -, hn, ex⟩ := rg_of e (by decide) (by decide)
        subst ex
        refine wp_ic (pc := 26) (x := nI 0) dX8_chance_26 ic_0 ?_
        refine wp_istore (pc := 27) (L' := [_, _, _, _, _, _]) dX8_chance_27 (Nat.le_of_ble_eq_true rfl) rfl rfl ?_
        refine wp_ic (pc := 29) (x := nI 0) dX8_chance_29 ic_0 ?_
        refine wp_istore (pc := 30) (L' := [_, _, _, _, _, _]) dX8_chance_30 (Nat.le_of_ble_eq_true rfl) rfl rfl ?_
        exact loop m n hm hn 4 0 M (by omega) (by omega) Sm.rf
      · have e : rg 0 24 x = false := rg_n3 h20
        refine wp_bipush (pc := 23) (x := (-2)) dX8_chance_23 bp_m2 ?_
        refine wf_iret (pc := 25) dX8_chance_25 rfl ?_
        unfold oChance; rw [if_pos h8, e]
        exact ⟨rfl, H, Fr.rf⟩
  · have h8 := b2i_0 h8
    refine wp_ic (pc := 11) (x := (-1)) dX8_chance_11 ic_m1 ?_
    refine wf_iret (pc := 12) dX8_chance_12 rfl ?_
    unfold oChance; rw [if_neg (by rw [h8]; decide)]
    exact ⟨rfl, H, Fr.rf⟩
/-! days -/
def nxE (e : Int64) : Int64 := e * 6364136223846793005 + 1442695040888963407
def drN (e : Int64) : Nat := e.toUInt64.toNat / 2 ^ 33 % 12
theorem dr_eq (e : Int64) : ((e.toUInt64 >>> ((nI 33).toInt64.toUInt64 &&& Int64.toUInt64 63)).toInt64 - (e.toUInt64 >>> ((nI 33).toInt64.toUInt64 &&& Int64.toUInt64 63)).toInt64 / 12 * 12).toInt32 = nI (drN e) := by
  have h0 : ((nI 33).toInt64.toUInt64 &&& Int64.toUInt64 63) = 33 := by decide
  rw [h0]
  have h1 : (e.toUInt64 >>> 33).toNat = e.toUInt64.toNat / 2 ^ 33 := by
    rw [UInt64.toNat_shiftRight, Nat.shiftRight_eq_div_pow]
    rfl
  have h2 : (e.toUInt64 >>> 33).toNat < 2 ^ 31 := by
    rw [h1]
    have := e.toUInt64.toNat_lt
    omega
  have h3 : (e.toUInt64 >>> 33).toInt64.toInt = ((e.toUInt64 >>> 33).toNat : Int) := by
    rw [UInt64.toInt64]
    show (e.toUInt64 >>> 33).toBitVec.toInt = _
    rw [BitVec.toInt_eq_toNat_of_lt]
    · rfl
    · show 2 * (e.toUInt64 >>> 33).toNat < _
      omega
  unfold drN
  rw [← h1]
  generalize (e.toUInt64 >>> 33).toInt64 = z at h3 ⊢
  generalize (e.toUInt64 >>> 33).toNat = n at h2 h3 ⊢
  have h12 : (12 : Int64).toInt = 12 := rfl
  have h4 : (z / 12).toInt = ((n / 12 : Nat) : Int) := by
    rw [Int64.toInt_div_of_ne_right _ _ (by decide), h3, h12, Int.tdiv_eq_ediv_of_nonneg (by omega)]
    omega
  have h5 : (z - z / 12 * 12).toInt = ((n % 12 : Nat) : Int) := by
    rw [Int64.toInt_sub, Int64.toInt_mul, h4, h3, h12]
    rw [Int.bmod_eq_of_le, Int.bmod_eq_of_le] <;> first | omega | (rw [Int.bmod_eq_of_le] <;> omega)
  apply Int32.toInt_inj.mp
  rw [Int64.toInt_toInt32, h5, nI_toInt (by omega)]
  rw [Int.bmod_eq_of_le] <;> omega
theorem drN_lt (e : Int64) : drN e < 12 := Nat.mod_lt _ (by decide)
def dyQ (Λ : Lw) (Q : Pg) (w : Nat) : Pg := if w / 3 < lD Λ then goP Λ Q (w / 3) (w % 3) else Q
def dyS (Λ : Lw) (P : Pg) (h : Nat) (e : Int64) : Nat → Int64 × Pg × Nat
  | 0 => (e, P, 0)
  | k + 1 => (nxE (dyS Λ P h e k).1, (hourP Λ (dyQ Λ (dyS Λ P h e k).2.1 (drN (nxE (dyS Λ P h e k).1))) (h + k) 0 (lLe Λ)).2, (dyS Λ P h e k).2.2 + pop5 (hourP Λ (dyQ Λ (dyS Λ P h e k).2.1 (drN (nxE (dyS Λ P h e k).1))) (h + k) 0 (lLe Λ)).1.toNatClampNeg)
def oDays (s : Sv) (x : Int32) : Int32 × Sv := if rg 1 30 x = true then (nI (dyS s.Λ s.P s.h s.e x.toNatClampNeg).2.2, s.sd (dyS s.Λ s.P s.h s.e x.toNatClampNeg).1) else (-2, s)
theorem dyS_s {Λ : Lw} {P Q : Pg} {h k c : Nat} {e e' : Int64} (q : dyS Λ P h e k = (e', Q, c)) : dyS Λ P h e (k + 1) = (nxE e', (hourP Λ (dyQ Λ Q (drN (nxE e'))) (h + k) 0 (lLe Λ)).2, c + pop5 (hourP Λ (dyQ Λ Q (drN (nxE e'))) (h + k) 0 (lLe Λ)).1.toNatClampNeg) := by rw [dyS, q]
theorem wp_topJ {E : EnvT} {K : CtxT} {μ : MI} {d : Nat} {f : Nat × Nat} {pc : Nat} {L : List (Option Value)} {st : List Value} {nx : Nat} {M : Mm} {k n : Nat} {Z : State → Prop} {x : Int64} (y : Int64) (h : x = y) (kk : Wp E K μ d f pc L (.long y :: st) nx M k n Z) : Wp E K μ d f pc L (.long x :: st) nx M k n Z := by
  subst h
  exact kk
theorem inD_dec {j n : Nat} (hj : j < 2 ^ 31) (hn : n < 2 ^ 31) : inD (nI j) n = decide (j < n) := by
  by_cases q : j < n
  · rw [inD_nI hn q]; simp [q]
  · simp only [q, decide_false]
    simp [inD, nI_le (show n ≤ j by omega) hj]
theorem c_days {l : Launch} {K : CtxT} {M : Mm} {s : Sv} {B : Nat} (H : XI M s) (V : OkV B s) (hB : B ≤ 9999) {x : Int32} : Ci l K 4 mX8_days [.ref (K.1 + 0), .int x] M (fun r M' => r = (oDays s x).1 ∧ XI M' (oDays s x).2 ∧ Fr M M') := by
  refine ci_of (L := [some (.ref (K.1 + 0)), some (.int x), none, none, none, none]) (by decide +kernel) (Nat.le_of_ble_eq_true rfl) rfl rfl (fun E => ?_)
  have loop : ∀ n, 1 ≤ n → n ≤ 30 → ∀ (n' k : Nat) (M1 : Mm) (e' : Int64) (Q : Pg) (c : Nat) (z1 z2 : Option Value), n' = n - k → k ≤ n → dyS s.Λ s.P s.h s.e k = (e', Q, c) → XI M1 (s.sd e') → XT M1 25 s.Λ Q → OkP s.Λ Q (s.h + k) → Fr M M1 → Wp E K mX8_days 4 (0, 0) 29 [some (.ref (K.1 + 0)), some (.int (nI n)), some (.int (nI c)), some (.int (nI k)), z1, z2] [] 168 M1 0 0 (zI E K (fun r M' => r = (oDays s (nI n)).1 ∧ XI M' (oDays s (nI n)).2 ∧ Fr M M')) := by
    intro n hn1 hn30 n'
    induction n' with
    | zero =>
      intro k M1 e' Q c z1 z2 hn hk hy H1 hd ho F1
      refine wp_iload_n (pc := 29) dX8_days_29 rfl ?_
      refine wp_iload_n (pc := 30) dX8_days_30 rfl ?_
      refine wp_icmp_ge (pc := 31) 130 dX8_days_31 (by decide) (fun h31 => ?_) (fun h31 => ?_)
      · have e : k = n := by omega
        subst e
        refine wp_iload_n (pc := 130) dX8_days_130 rfl ?_
        refine wf_iret (pc := 131) dX8_days_131 rfl ?_
        unfold oDays
        rw [if_pos (rg_y (nI_nlt hn1 (by omega)) (nI_nlt hn30 (by omega))), nI_cl (by omega), hy]
        exact ⟨rfl, H1, F1⟩
      · exact absurd (nI_le (by omega) (by omega)) h31
    | succ n' ih =>
      intro k M1 e' Q c z1 z2 hn hk hy H1 hd ho F1
      have hB2 := V.h
      have hD := V.l.1
      have hy2 := dyS_s hy
      obtain ⟨e2, he2⟩ : ∃ e2, nxE e' = e2 := ⟨_, rfl⟩
      rw [he2] at hy2
      have hw := drN_lt e2
      have hdr := dr_eq e2
      generalize drN e2 = w at hw hdr hy2
      obtain ⟨Q2, hQ2⟩ : ∃ Q2, dyQ s.Λ Q w = Q2 := ⟨_, rfl⟩
      rw [hQ2] at hy2
      refine wp_iload_n (pc := 29) dX8_days_29 rfl ?_
      refine wp_iload_n (pc := 30) dX8_days_30 rfl ?_
      refine wp_icmp_ge (pc := 31) 130 dX8_days_31 (by decide) (fun h31 => ?_) (fun h31 => ?_)
      · exact absurd h31 (nI_ge (by omega) (by omega))
      · have H : XI M1 (s.sd e') := H1
        refine wp_aload_n (pc := 34) dX8_days_34 rfl ?_
        refine wp_aload_n (pc := 35) dX8_days_35 rfl ?_
        refine wf_getJ (pc := 36) dX8_days_36 fl_X8_69 lk_0 ?_
        rw [show M1.2.1 0 10 = e' from H1.e]
        refine wp_ldc2 (pc := 39) dX8_days_39 kc_X8_233 ?_
        refine wp_lmul (pc := 42) dX8_days_42 ?_
        refine wp_ldc2 (pc := 43) dX8_days_43 kc_X8_235 ?_
        refine wp_ladd (pc := 46) dX8_days_46 ?_
        refine wp_topJ e2 (by rw [← he2, nxE]) ?_
        refine wf_putJ (pc := 47) dX8_days_47 fl_X8_69 lk_0 ?_
        have H : XI (wJ M1 0 10 e2) (s.sd e2) := H1.sd e2
        have F := F1.tr (Fr.sd (M := M1) (x := e2))
        have ht : XT (wJ M1 0 10 e2) 25 s.Λ Q := hd
        generalize wJ M1 0 10 e2 = M2 at H F ht ⊢
        refine wp_aload_n (pc := 50) dX8_days_50 rfl ?_
        refine wf_getJ (pc := 51) dX8_days_51 fl_X8_69 lk_0 ?_
        rw [show M2.2.1 0 10 = e2 from H.e]
        refine wp_bipush (pc := 54) (x := nI 33) dX8_days_54 bp_33 ?_
        refine wp_lushr (pc := 56) dX8_days_56 ?_
        refine wp_ldc2 (pc := 57) dX8_days_57 kc_X8_237 ?_
        refine wp_lrem (pc := 60) dX8_days_60 (by decide) ?_
        refine wp_l2i (pc := 61) dX8_days_61 ?_
        refine wp_top (nI w) hdr ?_
        refine wp_istore (pc := 62) (L' := [_, _, _, _, _, _]) dX8_days_62 (Nat.le_of_ble_eq_true rfl) rfl rfl ?_
        refine wp_iload (pc := 64) dX8_days_64 rfl ?_
        refine wp_ic (pc := 66) (x := nI 3) dX8_days_66 ic_3 ?_
        refine wp_idivN (pc := 67) dX8_days_67 rfl rfl (by omega) (by decide) (by decide) ?_
        refine wp_istore (pc := 68) (L' := [_, _, _, _, _, _]) dX8_days_68 (Nat.le_of_ble_eq_true rfl) rfl rfl ?_
        refine wp_aload_n (pc := 70) dX8_days_70 rfl ?_
        refine wf_getR (pc := 71) dX8_days_71 fl_X8_27 lk_0 (H.r 0 3 14 rfl) ?_
        refine wp_iload (pc := 74) dX8_days_74 rfl ?_
        refine wf_callVi (pc := 76) dX8_days_76 cl_X8_120 (c_hasDog (Λ := s.Λ) IL_14 H.r V.l.N H.l) IL_14.1 rfl rfl rfl rfl (Nat.le_of_ble_eq_true rfl) (by decide) ⟨Nat.le_refl _, Nat.le_refl _⟩ (fun r76 M76 q76 => ?_)
        rw [q76.1, q76.2]
        refine wp_if_eq (pc := 79) 99 dX8_days_79 (by decide) (fun h79 => ?_) (fun h79 => ?_)
        · have h79 := b2i_0 h79
          rw [inD_dec (by omega) (by omega)] at h79
          have eQ : Q2 = Q := by rw [← hQ2]; exact if_neg (of_decide_eq_false h79)
          have ht : XT M2 25 s.Λ Q2 := by rw [eQ]; exact ht
          have ho2 : OkP s.Λ Q2 (s.h + k) := by rw [eQ]; exact ho
          refine wp_iload_n (pc := 99) dX8_days_99 rfl ?_
          refine wp_aload_n (pc := 100) dX8_days_100 rfl ?_
          refine wf_getR (pc := 101) dX8_days_101 fl_X8_38 lk_0 (H.r 0 5 25 rfl) ?_
          refine wp_aload_n (pc := 104) dX8_days_104 rfl ?_
          refine wf_getR (pc := 105) dX8_days_105 fl_X8_27 lk_0 (H.r 0 3 14 rfl) ?_
          refine wp_aload_n (pc := 108) dX8_days_108 rfl ?_
          refine wf_getR (pc := 109) dX8_days_109 fl_X8_27 lk_0 (H.r 0 3 14 rfl) ?_
          refine wf_getI (pc := 112) dX8_days_112 fl_X8_96 IL_14.1 ?_
          rw [H.l.2.2.1]
          refine wp_ic (pc := 115) (x := nI 0) dX8_days_115 ic_0 ?_
          refine wf_callVi (pc := 116) dX8_days_116 cl_X8_175 (c_passHour (Λ := s.Λ) IT_25 IL_14 H.r V.l.N H.l ht ho2.kp (by omega) ho2.1 (by omega)) IT_25.1 rfl rfl rfl rfl (Nat.le_of_ble_eq_true rfl) (by decide) ⟨Nat.le_refl _, Nat.le_refl _⟩ (fun r116 M116 q116 => ?_)
          have F := F.tr (q116.2.2.fr (by decide))
          have H : XI M116 (s.sd e2) := H.scr q116.2.2 (by omega)
          obtain ⟨a, ha, eb⟩ := hour_lt ho2 V.l.N 0 (lLe s.Λ)
          rw [q116.1, eb]
          refine wf_callSi (pc := 119) dX8_days_119 cl_X8_239 (c_bitCount ha) rfl rfl (Nat.le_of_ble_eq_true rfl) (by decide) ⟨Nat.le_refl _, Nat.le_refl _⟩ (fun r119 M119 q119 => ?_)
          rw [q119.1, q119.2]
          refine wp_iadd (pc := 122) dX8_days_122 ?_
          refine wp_top (nI (c + pop5 a)) (nI_add _ _) ?_
          refine wp_istore_n (pc := 123) (L' := [_, _, _, _, _, _]) dX8_days_123 (Nat.le_of_ble_eq_true rfl) rfl rfl ?_
          refine wp_iinc1 (pc := 124) (L' := [_, _, _, _, _, _]) dX8_days_124 rfl rfl rfl ?_
          refine wp_goto (pc := 127) 29 dX8_days_127 (by decide) ?_
          rw [eb, nI_cl (by omega)] at hy2
          exact ih (k + 1) M116 e2 _ (c + pop5 a) _ _ (by omega) (by omega) hy2 H q116.2.1 (ho2.hour V.l.N 0 (lLe s.Λ)) F
        · have h79 := b2i_1 h79
          rw [inD_dec (by omega) (by omega)] at h79
          have h79 := of_decide_eq_true h79
          have eQ : Q2 = goP s.Λ Q (w / 3) (w % 3) := by rw [← hQ2]; exact if_pos h79
          refine wp_aload_n (pc := 82) dX8_days_82 rfl ?_
          refine wf_getR (pc := 83) dX8_days_83 fl_X8_38 lk_0 (H.r 0 5 25 rfl) ?_
          refine wp_aload_n (pc := 86) dX8_days_86 rfl ?_
          refine wf_getR (pc := 87) dX8_days_87 fl_X8_27 lk_0 (H.r 0 3 14 rfl) ?_
          refine wp_iload (pc := 90) dX8_days_90 rfl ?_
          refine wp_iload (pc := 92) dX8_days_92 rfl ?_
          refine wp_ic (pc := 94) (x := nI 3) dX8_days_94 ic_3 ?_
          refine wp_iremN (pc := 95) dX8_days_95 rfl rfl (by omega) (by decide) (by decide) ?_
          refine wf_callVv (pc := 96) dX8_days_96 cl_X8_164 (c_goes IT_25 IL_14 H.r V.l.N H.l ht (by omega) h79 (by omega) (ho.2.1 _ h79)) IT_25.1 rfl rfl rfl rfl (Nat.le_of_ble_eq_true rfl) (by decide) ⟨Nat.le_refl _, Nat.le_refl _⟩ (fun M96 q96 => ?_)
          have F := F.tr (q96.2.fr (by decide))
          have H : XI M96 (s.sd e2) := H.scr q96.2 (by omega)
          have ht : XT M96 25 s.Λ Q2 := by rw [eQ]; exact q96.1
          have ho2 : OkP s.Λ Q2 (s.h + k) := by rw [eQ]; exact ho.go V.l.N h79
          refine wp_iload_n (pc := 99) dX8_days_99 rfl ?_
          refine wp_aload_n (pc := 100) dX8_days_100 rfl ?_
          refine wf_getR (pc := 101) dX8_days_101 fl_X8_38 lk_0 (H.r 0 5 25 rfl) ?_
          refine wp_aload_n (pc := 104) dX8_days_104 rfl ?_
          refine wf_getR (pc := 105) dX8_days_105 fl_X8_27 lk_0 (H.r 0 3 14 rfl) ?_
          refine wp_aload_n (pc := 108) dX8_days_108 rfl ?_
          refine wf_getR (pc := 109) dX8_days_109 fl_X8_27 lk_0 (H.r 0 3 14 rfl) ?_
          refine wf_getI (pc := 112) dX8_days_112 fl_X8_96 IL_14.1 ?_
          rw [H.l.2.2.1]
          refine wp_ic (pc := 115) (x := nI 0) dX8_days_115 ic_0 ?_
          refine wf_callVi (pc := 116) dX8_days_116 cl_X8_175 (c_passHour (Λ := s.Λ) IT_25 IL_14 H.r V.l.N H.l ht ho2.kp (by omega) ho2.1 (by omega)) IT_25.1 rfl rfl rfl rfl (Nat.le_of_ble_eq_true rfl) (by decide) ⟨Nat.le_refl _, Nat.le_refl _⟩ (fun r116 M116 q116 => ?_)
          have F := F.tr (q116.2.2.fr (by decide))
          have H : XI M116 (s.sd e2) := H.scr q116.2.2 (by omega)
          obtain ⟨a, ha, eb⟩ := hour_lt ho2 V.l.N 0 (lLe s.Λ)
          rw [q116.1, eb]
          refine wf_callSi (pc := 119) dX8_days_119 cl_X8_239 (c_bitCount ha) rfl rfl (Nat.le_of_ble_eq_true rfl) (by decide) ⟨Nat.le_refl _, Nat.le_refl _⟩ (fun r119 M119 q119 => ?_)
          rw [q119.1, q119.2]
          refine wp_iadd (pc := 122) dX8_days_122 ?_
          refine wp_top (nI (c + pop5 a)) (nI_add _ _) ?_
          refine wp_istore_n (pc := 123) (L' := [_, _, _, _, _, _]) dX8_days_123 (Nat.le_of_ble_eq_true rfl) rfl rfl ?_
          refine wp_iinc1 (pc := 124) (L' := [_, _, _, _, _, _]) dX8_days_124 rfl rfl rfl ?_
          refine wp_goto (pc := 127) 29 dX8_days_127 (by decide) ?_
          rw [eb, nI_cl (by omega)] at hy2
          exact ih (k + 1) M116 e2 _ (c + pop5 a) _ _ (by omega) (by omega) hy2 H q116.2.1 (ho2.hour V.l.N 0 (lLe s.Λ)) F
  refine wp_iload_n (pc := 0) dX8_days_0 rfl ?_
  refine wp_ic (pc := 1) (x := nI 1) dX8_days_1 ic_1 ?_
  refine wp_icmp_lt (pc := 2) 11 dX8_days_2 (by decide) (fun h2 => ?_) (fun h2 => ?_)
  · have e : rg 1 30 x = false := rg_n1 h2
    refine wp_bipush (pc := 11) (x := (-2)) dX8_days_11 bp_m2 ?_
    refine wf_iret (pc := 13) dX8_days_13 rfl ?_
    unfold oDays; rw [e]
    exact ⟨rfl, H, Fr.rf⟩
  · refine wp_iload_n (pc := 5) dX8_days_5 rfl ?_
    refine wp_bipush (pc := 6) (x := nI 30) dX8_days_6 bp_30 ?_
    refine wp_icmp_le (pc := 8) 14 dX8_days_8 (by decide) (fun h8 => ?_) (fun h8 => ?_)
    · have e : rg 1 30 x = true := rg_y3 h2 h8
      obtain ⟨n, hn1, hn, ex⟩ := rg_of e (by decide) (by decide)
      subst ex
      refine wp_ic (pc := 14) (x := nI 0) dX8_days_14 ic_0 ?_
      refine wp_istore_n (pc := 15) (L' := [_, _, _, _, _, _]) dX8_days_15 (Nat.le_of_ble_eq_true rfl) rfl rfl ?_
      refine wp_aload_n (pc := 16) dX8_days_16 rfl ?_
      refine wf_getR (pc := 17) dX8_days_17 fl_X8_38 lk_0 (H.r 0 5 25 rfl) ?_
      refine wp_aload_n (pc := 20) dX8_days_20 rfl ?_
      refine wf_getR (pc := 21) dX8_days_21 fl_X8_34 lk_0 (H.r 0 4 19 rfl) ?_
      refine wf_callVv (pc := 24) dX8_days_24 cl_X8_83 (c_Town_become IT_25 IT_19 H.r (by omega)) IT_25.1 rfl rfl rfl rfl (Nat.le_of_ble_eq_true rfl) (by decide) ⟨Nat.le_refl _, Nat.le_refl _⟩ (fun M24 q24 => ?_)
      have F : Fr M M24 := q24.2.fr (by decide)
      have ht := q24.1.XT ⟨V.l.1, V.l.2.1⟩ H.p
      have H := H.scr q24.2 (by omega)
      refine wp_ic (pc := 27) (x := nI 0) dX8_days_27 ic_0 ?_
      refine wp_istore_n (pc := 28) (L' := [_, _, _, _, _, _]) dX8_days_28 (Nat.le_of_ble_eq_true rfl) rfl rfl ?_
      exact loop n hn1 hn n 0 M24 s.e s.P 0 none none (by omega) (by omega) rfl H ht V.p F
    · have e : rg 1 30 x = false := rg_n3 h8
      refine wp_bipush (pc := 11) (x := (-2)) dX8_days_11 bp_m2 ?_
      refine wf_iret (pc := 13) dX8_days_13 rfl ?_
      unfold oDays; rw [e]
      exact ⟨rfl, H, Fr.rf⟩
