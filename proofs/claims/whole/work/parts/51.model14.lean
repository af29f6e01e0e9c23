/-- alone, where that is asked for -/
def alB (Λ : Lw) (u : Bool) (Q : Pg) (d : Nat) : Bool := !u || !anyN (lD Λ) (aloB Λ Q d)
def gs1 (Λ : Lw) (h d k v : Nat) (own : Int32) (u : Bool) (Q : Pg) : Bool × Pg :=
  (decide ((hourP Λ (goP Λ Q d v) (h + k) 0 (lLe Λ)).1 &&& own = 0) && alB Λ u (goP Λ Q d v) d, (hourP Λ (goP Λ Q d v) (h + k) 0 (lLe Λ)).2)
/-- a row of figures, the first k of them: whether it is well so far, and the page -/
def gsS (Λ : Lw) (P : Pg) (h d n row : Nat) (u : Bool) : Nat → Bool × Pg
  | 0 => (alB Λ u P d, P)
  | k + 1 => if (gsS Λ P h d n row u k).1 = true then gs1 Λ h d k (row / 3 ^ (n - 1 - k) % 3) (nI (kepN P d (lM Λ))) u (gsS Λ P h d n row u k).2 else gsS Λ P h d n row u k
theorem gsS_stuck {Λ : Lw} {P : Pg} {h d n row k : Nat} {u : Bool} (e : (gsS Λ P h d n row u k).1 = false) : ∀ j, gsS Λ P h d n row u (k + j) = gsS Λ P h d n row u k
  | 0 => rfl
  | j + 1 => by
    have ih := gsS_stuck e j
    show (if (gsS Λ P h d n row u (k + j)).1 = true then _ else _) = _
    rw [if_neg (by rw [ih, e]; decide)]
    exact ih
theorem gsS_y {Λ : Lw} {P : Pg} {h d n row k : Nat} {u : Bool} {Q : Pg} {c : Bool × Pg} (e : gsS Λ P h d n row u k = (true, Q)) (g : gs1 Λ h d k (row / 3 ^ (n - 1 - k) % 3) (nI (kepN P d (lM Λ))) u Q = c) : gsS Λ P h d n row u (k + 1) = c := by
  show (if (gsS Λ P h d n row u k).1 = true then _ else _) = _
  rw [e]
  exact (if_pos rfl).trans g
theorem cR_goes {l : Launch} {K : CtxT} {M : Mm} {Λ : Lw} (hR : RS M) (hL : OkN Λ) (hw : XW M Λ) {P : Pg} {h : Nat} (hP : MT M 158 0 P) (hO : OkP Λ P h) (hB : h ≤ 9999) {d n row : Nat} {u : Bool} (hd : d < lD Λ) (hn : n ≤ 7) (hr : row < 3 ^ n) : Ci l K 2 mX9_goes [.ref (K.1 + 150), .int (nI d), .int (nI n), .int (nI row), .int (b2i u)] M (fun r M' => r = b2i (gsS Λ P h d n row u n).1 ∧ MT M' 159 0 (gsS Λ P h d n row u n).2 ∧ Sm 159 160 M M') := by
  refine ci_of (L := [some (.ref (K.1 + 150)), some (.int (nI d)), some (.int (nI n)), some (.int (nI row)), some (.int (b2i u)), none, none, none]) (by decide +kernel) (Nat.le_of_ble_eq_true rfl) rfl rfl (fun E => ?_)
  have hD := hL.1
  have hr2 : row < 2 ^ 31 := Nat.lt_of_lt_of_le hr (Nat.le_trans (Nat.pow_le_pow_right (by decide) hn) (by decide))
  have loop : ∀ (n1 k : Nat) (M1 : Mm) (b : Bool) (Q : Pg), n1 = n - k → k ≤ n → gsS Λ P h d n row u k = (b, Q) → MT M1 159 0 Q → Sm 159 160 M M1 → (b = true → OkP Λ Q (h + k)) → Wp E K mX9_goes 2 (0, 0) 38 [some (.ref (K.1 + 150)), some (.int (nI d)), some (.int (nI n)), some (.int (nI row)), some (.int (b2i u)), some (.int (nI (kepN P d (lM Λ)))), some (.int (b2i b)), some (.int (nI k))] [] 168 M1 0 0 (zI E K (fun r M' => r = b2i (gsS Λ P h d n row u n).1 ∧ MT M' 159 0 (gsS Λ P h d n row u n).2 ∧ Sm 159 160 M M')) := by
    intro n1
    induction n1 with
    | zero =>
      intro k M1 b Q e hk e0 hq s1 ho
      refine wp_iload (pc := 38) dX9_goes_38 rfl ?_
      refine wp_iload_n (pc := 40) dX9_goes_40 rfl ?_
      refine wp_icmp_ge (pc := 41) 129 dX9_goes_41 (by decide) (fun h41 => ?_) (fun h41 => ?_)
      · have e : k = n := by omega
        subst e
        refine wp_iload (pc := 129) dX9_goes_129 rfl ?_
        refine wf_zret (pc := 131) (b) dX9_goes_131 rfl rfl ?_
        rw [e0]; exact ⟨rfl, hq, s1⟩
      · exact absurd (nI_le (by omega) (by omega)) h41
    | succ n1 ih =>
      intro k M1 b Q e hk e0 hq s1 ho
      have hp0 : 0 < 3 ^ (n - 1 - k) := Nat.pow_pos (by decide)
      have hp1 : 3 ^ (n - 1 - k) < 2 ^ 31 := Nat.lt_of_le_of_lt (Nat.pow_le_pow_right (n := 3) (by decide) (show n - 1 - k ≤ 7 by omega)) (by decide)
      have hdl := Nat.div_le_self row (3 ^ (n - 1 - k))
      refine wp_iload (pc := 38) dX9_goes_38 rfl ?_
      refine wp_iload_n (pc := 40) dX9_goes_40 rfl ?_
      refine wp_icmp_ge (pc := 41) 129 dX9_goes_41 (by decide) (fun h41 => ?_) (fun h41 => ?_)
      · exact absurd h41 (nI_ge (by omega) (by omega))
      · refine wp_iload (pc := 44) dX9_goes_44 rfl ?_
        refine wp_if_eq (pc := 46) 129 dX9_goes_46 (by decide) (fun h46 => ?_) (fun h46 => ?_)
        · have h46 := b2i_0 h46
          subst h46
          refine wp_iload (pc := 129) dX9_goes_129 rfl ?_
          refine wf_zret (pc := 131) (false) dX9_goes_131 rfl rfl ?_
          have en := gsS_stuck (show (gsS Λ P h d n row u k).1 = false by rw [e0]) (n - k)
          rw [show k + (n - k) = n by omega] at en
          rw [en, e0]; exact ⟨rfl, hq, s1⟩
        · have h46 := b2i_1 h46
          subst h46
          have ho := ho rfl
          obtain ⟨Q1, hQ1⟩ : ∃ Q1, goP Λ Q d (row / 3 ^ (n - 1 - k) % 3) = Q1 := ⟨_, rfl⟩
          have ho1 : OkP Λ Q1 (h + k) := by rw [← hQ1]; exact ho.go hL hd
          refine wp_aload_n (pc := 49) dX9_goes_49 rfl ?_
          refine wp_aload_n (pc := 50) dX9_goes_50 rfl ?_
          refine wf_getR (pc := 51) dX9_goes_51 fl_X9_38 lk_150 ((s1.rs hR) 150 17 159 rfl) ?_
          refine wp_iload_n (pc := 54) dX9_goes_54 rfl ?_
          refine wp_iload_n (pc := 55) dX9_goes_55 rfl ?_
          refine wp_ic (pc := 56) (x := nI 3) dX9_goes_56 ic_3 ?_
          refine wp_iload_n (pc := 57) dX9_goes_57 rfl ?_
          refine wp_ic (pc := 58) (x := nI 1) dX9_goes_58 ic_1 ?_
          refine wp_isub (pc := 59) dX9_goes_59 ?_
          refine wp_top (nI (n - 1)) (pk_sub (by omega)) ?_
          refine wp_iload (pc := 60) dX9_goes_60 rfl ?_
          refine wp_isub (pc := 62) dX9_goes_62 ?_
          refine wp_top (nI (n - 1 - k)) (pk_sub (by omega)) ?_
          refine wf_callSi (pc := 63) dX9_goes_63 cl_X9_188 (cR_power (b := 3) (n := n - 1 - k) (by omega)) rfl rfl (Nat.le_of_ble_eq_true rfl) (by decide) ⟨Nat.le_refl _, Nat.le_refl _⟩ (fun r63 M63 q63 => ?_)
          rw [q63.1, q63.2]
          refine wp_idivN (pc := 66) dX9_goes_66 rfl rfl (by omega) hp0 (by omega) ?_
          refine wp_ic (pc := 67) (x := nI 3) dX9_goes_67 ic_3 ?_
          refine wp_iremN (pc := 68) dX9_goes_68 rfl rfl (by omega) (by decide) (by decide) ?_
          refine wf_callVv (pc := 69) dX9_goes_69 cl_X9_169 (c_goLead (Λ := Λ) (s1.rs hR) hL (hw.si s1.2 (Or.inl (by omega))) (p := 159) rfl hq (by decide) ho hd (Nat.mod_lt _ (by decide))) lk_150 rfl rfl rfl rfl (Nat.le_of_ble_eq_true rfl) (by decide) ⟨Nat.le_refl _, Nat.le_refl _⟩ (fun M69 q69 => ?_)
          rw [hQ1] at q69
          have s1 := s1.tr q69.2
          refine wp_iload (pc := 72) dX9_goes_72 rfl ?_
          refine wp_if_eq (pc := 74) 85 dX9_goes_74 (by decide) (fun h74 => ?_) (fun h74 => ?_)
          · have h74 := b2i_0 h74
            have ea : alB Λ u Q1 d = true := by unfold alB; rw [h74]; rfl
            refine wp_ic (pc := 85) (x := nI 1) dX9_goes_85 ic_1 ?_
            refine wp_goto (pc := 86) 90 dX9_goes_86 (by decide) ?_
            refine wp_istore (pc := 90) (L' := [_, _, _, _, _, _, _, _]) dX9_goes_90 (Nat.le_of_ble_eq_true rfl) rfl rfl ?_
            refine wp_aload_n (pc := 92) dX9_goes_92 rfl ?_
            refine wp_aload_n (pc := 93) dX9_goes_93 rfl ?_
            refine wf_getR (pc := 94) dX9_goes_94 fl_X9_38 lk_150 ((s1.rs hR) 150 17 159 rfl) ?_
            refine wp_aload_n (pc := 97) dX9_goes_97 rfl ?_
            refine wf_getI (pc := 98) dX9_goes_98 fl_X9_13 lk_150 ?_
            rw [show M69.1 150 6 = lLe Λ from (s1.2 150 (by omega) 6).trans hw.2.2.1]
            refine wp_ic (pc := 101) (x := nI 0) dX9_goes_101 ic_0 ?_
            refine wf_callVi (pc := 102) dX9_goes_102 cl_X9_176 (c_goHourR (Λ := Λ) (s1.rs hR) hL (hw.si s1.2 (Or.inl (by omega))) (p := 159) rfl q69.1 (by decide) ho1 (by omega)) lk_150 rfl rfl rfl rfl (Nat.le_of_ble_eq_true rfl) (by decide) ⟨Nat.le_refl _, Nat.le_refl _⟩ (fun r102 M102 q102 => ?_)
            rw [q102.1]
            refine wp_iload (pc := 105) dX9_goes_105 rfl ?_
            refine wp_iand (pc := 107) dX9_goes_107 ?_
            refine wp_if_ne (pc := 108) 120 dX9_goes_108 (by decide) (fun h108 => ?_) (fun h108 => ?_)
            · refine wp_ic (pc := 120) (x := nI 0) dX9_goes_120 ic_0 ?_
              refine wp_istore (pc := 121) (L' := [_, _, _, _, _, _, _, _]) dX9_goes_121 (Nat.le_of_ble_eq_true rfl) rfl rfl ?_
              refine wp_iinc1 (pc := 123) (L' := [_, _, _, _, _, _, _, _]) dX9_goes_123 rfl rfl rfl ?_
              refine wp_goto (pc := 126) 38 dX9_goes_126 (by decide) ?_
              first | exact absurd h113 (by decide) | (exact ih (k + 1) M102 true _ (by omega) (by omega) (gsS_y e0 (by unfold gs1; rw [hQ1, ea, h108]; rfl)) q102.2.1 (s1.tr q102.2.2) (fun _ => by rw [show h + (k + 1) = h + k + 1 by omega]; exact ho1.hour hL 0 (lLe Λ)); done) | (exact ih (k + 1) M102 false _ (by omega) (by omega) (gsS_y e0 (by unfold gs1; rw [hQ1, ea, Bool.and_false])) q102.2.1 (s1.tr q102.2.2) (fun q => by cases q); done) | exact ih (k + 1) M102 false _ (by omega) (by omega) (gsS_y e0 (by unfold gs1; rw [hQ1, decide_eq_false h108]; rfl)) q102.2.1 (s1.tr q102.2.2) (fun q => by cases q)
            · have h108 : decide ((hourP Λ Q1 (h + k) 0 (lLe Λ)).1 &&& nI (kepN P d (lM Λ)) = 0) = true := decide_eq_true h108
              refine wp_iload (pc := 111) dX9_goes_111 rfl ?_
              refine wp_if_eq (pc := 113) 120 dX9_goes_113 (by decide) (fun h113 => ?_) (fun h113 => ?_)
              · refine wp_ic (pc := 120) (x := nI 0) dX9_goes_120 ic_0 ?_
                refine wp_istore (pc := 121) (L' := [_, _, _, _, _, _, _, _]) dX9_goes_121 (Nat.le_of_ble_eq_true rfl) rfl rfl ?_
                refine wp_iinc1 (pc := 123) (L' := [_, _, _, _, _, _, _, _]) dX9_goes_123 rfl rfl rfl ?_
                refine wp_goto (pc := 126) 38 dX9_goes_126 (by decide) ?_
                first | exact absurd h113 (by decide) | (exact ih (k + 1) M102 true _ (by omega) (by omega) (gsS_y e0 (by unfold gs1; rw [hQ1, ea, h108]; rfl)) q102.2.1 (s1.tr q102.2.2) (fun _ => by rw [show h + (k + 1) = h + k + 1 by omega]; exact ho1.hour hL 0 (lLe Λ)); done) | (exact ih (k + 1) M102 false _ (by omega) (by omega) (gsS_y e0 (by unfold gs1; rw [hQ1, ea, Bool.and_false])) q102.2.1 (s1.tr q102.2.2) (fun q => by cases q); done) | exact ih (k + 1) M102 false _ (by omega) (by omega) (gsS_y e0 (by unfold gs1; rw [hQ1, decide_eq_false h108]; rfl)) q102.2.1 (s1.tr q102.2.2) (fun q => by cases q)
              · refine wp_ic (pc := 116) (x := nI 1) dX9_goes_116 ic_1 ?_
                refine wp_goto (pc := 117) 121 dX9_goes_117 (by decide) ?_
                refine wp_istore (pc := 121) (L' := [_, _, _, _, _, _, _, _]) dX9_goes_121 (Nat.le_of_ble_eq_true rfl) rfl rfl ?_
                refine wp_iinc1 (pc := 123) (L' := [_, _, _, _, _, _, _, _]) dX9_goes_123 rfl rfl rfl ?_
                refine wp_goto (pc := 126) 38 dX9_goes_126 (by decide) ?_
                first | exact absurd h113 (by decide) | (exact ih (k + 1) M102 true _ (by omega) (by omega) (gsS_y e0 (by unfold gs1; rw [hQ1, ea, h108]; rfl)) q102.2.1 (s1.tr q102.2.2) (fun _ => by rw [show h + (k + 1) = h + k + 1 by omega]; exact ho1.hour hL 0 (lLe Λ)); done) | (exact ih (k + 1) M102 false _ (by omega) (by omega) (gsS_y e0 (by unfold gs1; rw [hQ1, ea, Bool.and_false])) q102.2.1 (s1.tr q102.2.2) (fun q => by cases q); done) | exact ih (k + 1) M102 false _ (by omega) (by omega) (gsS_y e0 (by unfold gs1; rw [hQ1, decide_eq_false h108]; rfl)) q102.2.1 (s1.tr q102.2.2) (fun q => by cases q)
          · have h74 := b2i_1 h74
            refine wp_aload_n (pc := 77) dX9_goes_77 rfl ?_
            refine wp_iload_n (pc := 78) dX9_goes_78 rfl ?_
            refine wf_callVi (pc := 79) dX9_goes_79 cl_X9_185 (cR_isAlone (s1.rs hR) hL (hw.si s1.2 (Or.inl (by omega))) (q69.1) hd) lk_150 rfl rfl rfl rfl (Nat.le_of_ble_eq_true rfl) (by decide) ⟨Nat.le_refl _, Nat.le_refl _⟩ (fun r79 M79 q79 => ?_)
            rw [q79.1, q79.2]
            refine wp_if_eq (pc := 82) 89 dX9_goes_82 (by decide) (fun h82 => ?_) (fun h82 => ?_)
            · have h82 := b2i_0 h82
              have ea : alB Λ u Q1 d = false := by unfold alB; rw [h74, h82]; rfl
              refine wp_ic (pc := 89) (x := nI 0) dX9_goes_89 ic_0 ?_
              refine wp_istore (pc := 90) (L' := [_, _, _, _, _, _, _, _]) dX9_goes_90 (Nat.le_of_ble_eq_true rfl) rfl rfl ?_
              refine wp_aload_n (pc := 92) dX9_goes_92 rfl ?_
              refine wp_aload_n (pc := 93) dX9_goes_93 rfl ?_
              refine wf_getR (pc := 94) dX9_goes_94 fl_X9_38 lk_150 ((s1.rs hR) 150 17 159 rfl) ?_
              refine wp_aload_n (pc := 97) dX9_goes_97 rfl ?_
              refine wf_getI (pc := 98) dX9_goes_98 fl_X9_13 lk_150 ?_
              rw [show M69.1 150 6 = lLe Λ from (s1.2 150 (by omega) 6).trans hw.2.2.1]
              refine wp_ic (pc := 101) (x := nI 0) dX9_goes_101 ic_0 ?_
              refine wf_callVi (pc := 102) dX9_goes_102 cl_X9_176 (c_goHourR (Λ := Λ) (s1.rs hR) hL (hw.si s1.2 (Or.inl (by omega))) (p := 159) rfl q69.1 (by decide) ho1 (by omega)) lk_150 rfl rfl rfl rfl (Nat.le_of_ble_eq_true rfl) (by decide) ⟨Nat.le_refl _, Nat.le_refl _⟩ (fun r102 M102 q102 => ?_)
              rw [q102.1]
              refine wp_iload (pc := 105) dX9_goes_105 rfl ?_
              refine wp_iand (pc := 107) dX9_goes_107 ?_
              refine wp_if_ne (pc := 108) 120 dX9_goes_108 (by decide) (fun h108 => ?_) (fun h108 => ?_)
              · refine wp_ic (pc := 120) (x := nI 0) dX9_goes_120 ic_0 ?_
                refine wp_istore (pc := 121) (L' := [_, _, _, _, _, _, _, _]) dX9_goes_121 (Nat.le_of_ble_eq_true rfl) rfl rfl ?_
                refine wp_iinc1 (pc := 123) (L' := [_, _, _, _, _, _, _, _]) dX9_goes_123 rfl rfl rfl ?_
                refine wp_goto (pc := 126) 38 dX9_goes_126 (by decide) ?_
                first | exact absurd h113 (by decide) | (exact ih (k + 1) M102 true _ (by omega) (by omega) (gsS_y e0 (by unfold gs1; rw [hQ1, ea, h108]; rfl)) q102.2.1 (s1.tr q102.2.2) (fun _ => by rw [show h + (k + 1) = h + k + 1 by omega]; exact ho1.hour hL 0 (lLe Λ)); done) | (exact ih (k + 1) M102 false _ (by omega) (by omega) (gsS_y e0 (by unfold gs1; rw [hQ1, ea, Bool.and_false])) q102.2.1 (s1.tr q102.2.2) (fun q => by cases q); done) | exact ih (k + 1) M102 false _ (by omega) (by omega) (gsS_y e0 (by unfold gs1; rw [hQ1, decide_eq_false h108]; rfl)) q102.2.1 (s1.tr q102.2.2) (fun q => by cases q)
              · have h108 : decide ((hourP Λ Q1 (h + k) 0 (lLe Λ)).1 &&& nI (kepN P d (lM Λ)) = 0) = true := decide_eq_true h108
                refine wp_iload (pc := 111) dX9_goes_111 rfl ?_
                refine wp_if_eq (pc := 113) 120 dX9_goes_113 (by decide) (fun h113 => ?_) (fun h113 => ?_)
                · refine wp_ic (pc := 120) (x := nI 0) dX9_goes_120 ic_0 ?_
                  refine wp_istore (pc := 121) (L' := [_, _, _, _, _, _, _, _]) dX9_goes_121 (Nat.le_of_ble_eq_true rfl) rfl rfl ?_
                  refine wp_iinc1 (pc := 123) (L' := [_, _, _, _, _, _, _, _]) dX9_goes_123 rfl rfl rfl ?_
                  refine wp_goto (pc := 126) 38 dX9_goes_126 (by decide) ?_
                  first | exact absurd h113 (by decide) | (exact ih (k + 1) M102 true _ (by omega) (by omega) (gsS_y e0 (by unfold gs1; rw [hQ1, ea, h108]; rfl)) q102.2.1 (s1.tr q102.2.2) (fun _ => by rw [show h + (k + 1) = h + k + 1 by omega]; exact ho1.hour hL 0 (lLe Λ)); done) | (exact ih (k + 1) M102 false _ (by omega) (by omega) (gsS_y e0 (by unfold gs1; rw [hQ1, ea, Bool.and_false])) q102.2.1 (s1.tr q102.2.2) (fun q => by cases q); done) | exact ih (k + 1) M102 false _ (by omega) (by omega) (gsS_y e0 (by unfold gs1; rw [hQ1, decide_eq_false h108]; rfl)) q102.2.1 (s1.tr q102.2.2) (fun q => by cases q)
                · refine wp_ic (pc := 116) (x := nI 1) dX9_goes_116 ic_1 ?_
                  refine wp_goto (pc := 117) 121 dX9_goes_117 (by decide) ?_
                  refine wp_istore (pc := 121) (L' := [_, _, _, _, _, _, _, _]) dX9_goes_121 (Nat.le_of_ble_eq_true rfl) rfl rfl ?_
                  refine wp_iinc1 (pc := 123) (L' := [_, _, _, _, _, _, _, _]) dX9_goes_123 rfl rfl rfl ?_
                  refine wp_goto (pc := 126) 38 dX9_goes_126 (by decide) ?_
                  first | exact absurd h113 (by decide) | (exact ih (k + 1) M102 true _ (by omega) (by omega) (gsS_y e0 (by unfold gs1; rw [hQ1, ea, h108]; rfl)) q102.2.1 (s1.tr q102.2.2) (fun _ => by rw [show h + (k + 1) = h + k + 1 by omega]; exact ho1.hour hL 0 (lLe Λ)); done) | (exact ih (k + 1) M102 false _ (by omega) (by omega) (gsS_y e0 (by unfold gs1; rw [hQ1, ea, Bool.and_false])) q102.2.1 (s1.tr q102.2.2) (fun q => by cases q); done) | exact ih (k + 1) M102 false _ (by omega) (by omega) (gsS_y e0 (by unfold gs1; rw [hQ1, decide_eq_false h108]; rfl)) q102.2.1 (s1.tr q102.2.2) (fun q => by cases q)
            · have h82 := b2i_1 h82
              have ea : alB Λ u Q1 d = true := by unfold alB; rw [h82]; simp
              refine wp_ic (pc := 85) (x := nI 1) dX9_goes_85 ic_1 ?_
              refine wp_goto (pc := 86) 90 dX9_goes_86 (by decide) ?_
              refine wp_istore (pc := 90) (L' := [_, _, _, _, _, _, _, _]) dX9_goes_90 (Nat.le_of_ble_eq_true rfl) rfl rfl ?_
              refine wp_aload_n (pc := 92) dX9_goes_92 rfl ?_
              refine wp_aload_n (pc := 93) dX9_goes_93 rfl ?_
              refine wf_getR (pc := 94) dX9_goes_94 fl_X9_38 lk_150 ((s1.rs hR) 150 17 159 rfl) ?_
              refine wp_aload_n (pc := 97) dX9_goes_97 rfl ?_
              refine wf_getI (pc := 98) dX9_goes_98 fl_X9_13 lk_150 ?_
              rw [show M69.1 150 6 = lLe Λ from (s1.2 150 (by omega) 6).trans hw.2.2.1]
              refine wp_ic (pc := 101) (x := nI 0) dX9_goes_101 ic_0 ?_
              refine wf_callVi (pc := 102) dX9_goes_102 cl_X9_176 (c_goHourR (Λ := Λ) (s1.rs hR) hL (hw.si s1.2 (Or.inl (by omega))) (p := 159) rfl q69.1 (by decide) ho1 (by omega)) lk_150 rfl rfl rfl rfl (Nat.le_of_ble_eq_true rfl) (by decide) ⟨Nat.le_refl _, Nat.le_refl _⟩ (fun r102 M102 q102 => ?_)
              rw [q102.1]
              refine wp_iload (pc := 105) dX9_goes_105 rfl ?_
              refine wp_iand (pc := 107) dX9_goes_107 ?_
              refine wp_if_ne (pc := 108) 120 dX9_goes_108 (by decide) (fun h108 => ?_) (fun h108 => ?_)
              · refine wp_ic (pc := 120) (x := nI 0) dX9_goes_120 ic_0 ?_
                refine wp_istore (pc := 121) (L' := [_, _, _, _, _, _, _, _]) dX9_goes_121 (Nat.le_of_ble_eq_true rfl) rfl rfl ?_
                refine wp_iinc1 (pc := 123) (L' := [_, _, _, _, _, _, _, _]) dX9_goes_123 rfl rfl rfl ?_
                refine wp_goto (pc := 126) 38 dX9_goes_126 (by decide) ?_
                first | exact absurd h113 (by decide) | (exact ih (k + 1) M102 true _ (by omega) (by omega) (gsS_y e0 (by unfold gs1; rw [hQ1, ea, h108]; rfl)) q102.2.1 (s1.tr q102.2.2) (fun _ => by rw [show h + (k + 1) = h + k + 1 by omega]; exact ho1.hour hL 0 (lLe Λ)); done) | (exact ih (k + 1) M102 false _ (by omega) (by omega) (gsS_y e0 (by unfold gs1; rw [hQ1, ea, Bool.and_false])) q102.2.1 (s1.tr q102.2.2) (fun q => by cases q); done) | exact ih (k + 1) M102 false _ (by omega) (by omega) (gsS_y e0 (by unfold gs1; rw [hQ1, decide_eq_false h108]; rfl)) q102.2.1 (s1.tr q102.2.2) (fun q => by cases q)
              · have h108 : decide ((hourP Λ Q1 (h + k) 0 (lLe Λ)).1 &&& nI (kepN P d (lM Λ)) = 0) = true := decide_eq_true h108
                refine wp_iload (pc := 111) dX9_goes_111 rfl ?_
                refine wp_if_eq (pc := 113) 120 dX9_goes_113 (by decide) (fun h113 => ?_) (fun h113 => ?_)
                · refine wp_ic (pc := 120) (x := nI 0) dX9_goes_120 ic_0 ?_
                  refine wp_istore (pc := 121) (L' := [_, _, _, _, _, _, _, _]) dX9_goes_121 (Nat.le_of_ble_eq_true rfl) rfl rfl ?_
                  refine wp_iinc1 (pc := 123) (L' := [_, _, _, _, _, _, _, _]) dX9_goes_123 rfl rfl rfl ?_
                  refine wp_goto (pc := 126) 38 dX9_goes_126 (by decide) ?_
                  first | exact absurd h113 (by decide) | (exact ih (k + 1) M102 true _ (by omega) (by omega) (gsS_y e0 (by unfold gs1; rw [hQ1, ea, h108]; rfl)) q102.2.1 (s1.tr q102.2.2) (fun _ => by rw [show h + (k + 1) = h + k + 1 by omega]; exact ho1.hour hL 0 (lLe Λ)); done) | (exact ih (k + 1) M102 false _ (by omega) (by omega) (gsS_y e0 (by unfold gs1; rw [hQ1, ea, Bool.and_false])) q102.2.1 (s1.tr q102.2.2) (fun q => by cases q); done) | exact ih (k + 1) M102 false _ (by omega) (by omega) (gsS_y e0 (by unfold gs1; rw [hQ1, decide_eq_false h108]; rfl)) q102.2.1 (s1.tr q102.2.2) (fun q => by cases q)
                · refine wp_ic (pc := 116) (x := nI 1) dX9_goes_116 ic_1 ?_
                  refine wp_goto (pc := 117) 121 dX9_goes_117 (by decide) ?_
                  refine wp_istore (pc := 121) (L' := [_, _, _, _, _, _, _, _]) dX9_goes_121 (Nat.le_of_ble_eq_true rfl) rfl rfl ?_
                  refine wp_iinc1 (pc := 123) (L' := [_, _, _, _, _, _, _, _]) dX9_goes_123 rfl rfl rfl ?_
                  refine wp_goto (pc := 126) 38 dX9_goes_126 (by decide) ?_
                  first | exact absurd h113 (by decide) | (exact ih (k + 1) M102 true _ (by omega) (by omega) (gsS_y e0 (by unfold gs1; rw [hQ1, ea, h108]; rfl)) q102.2.1 (s1.tr q102.2.2) (fun _ => by rw [show h + (k + 1) = h + k + 1 by omega]; exact ho1.hour hL 0 (lLe Λ)); done) | (exact ih (k + 1) M102 false _ (by omega) (by omega) (gsS_y e0 (by unfold gs1; rw [hQ1, ea, Bool.and_false])) q102.2.1 (s1.tr q102.2.2) (fun q => by cases q); done) | exact ih (k + 1) M102 false _ (by omega) (by omega) (gsS_y e0 (by unfold gs1; rw [hQ1, decide_eq_false h108]; rfl)) q102.2.1 (s1.tr q102.2.2) (fun q => by cases q)
  refine wp_aload_n (pc := 0) dX9_goes_0 rfl ?_
  refine wf_callVv (pc := 1) dX9_goes_1 cl_X9_182 (c_begin hR hP) lk_150 rfl rfl rfl rfl (Nat.le_of_ble_eq_true rfl) (by decide) ⟨Nat.le_refl _, Nat.le_refl _⟩ (fun M1 q1 => ?_)
  have s1 := q1.2
  refine wp_aload_n (pc := 4) dX9_goes_4 rfl ?_
  refine wp_aload_n (pc := 5) dX9_goes_5 rfl ?_
  refine wf_getR (pc := 6) dX9_goes_6 fl_X9_35 lk_150 ((s1.rs hR) 150 16 158 rfl) ?_
  refine wp_iload_n (pc := 9) dX9_goes_9 rfl ?_
  refine wf_callVi (pc := 10) dX9_goes_10 cl_X9_157 (c_keeps (Λ := Λ) (s1.rs hR) hL (hw.si s1.2 (Or.inl (by omega))) (p := 158) rfl (hP.si s1.2 (Or.inl (by omega))) (by omega)) lk_150 rfl rfl rfl rfl (Nat.le_of_ble_eq_true rfl) (by decide) ⟨Nat.le_refl _, Nat.le_refl _⟩ (fun r10 M10 q10 => ?_)
  rw [q10.1, q10.2]
  refine wp_istore (pc := 13) (L' := [_, _, _, _, _, _, _, _]) dX9_goes_13 (Nat.le_of_ble_eq_true rfl) rfl rfl ?_
  refine wp_iload (pc := 15) dX9_goes_15 rfl ?_
  refine wp_if_eq (pc := 17) 28 dX9_goes_17 (by decide) (fun h17 => ?_) (fun h17 => ?_)
  · have h17 := b2i_0 h17
    have ea : alB Λ u P d = true := by unfold alB; rw [h17]; rfl
    refine wp_ic (pc := 28) (x := nI 1) dX9_goes_28 ic_1 ?_
    refine wp_goto (pc := 29) 33 dX9_goes_29 (by decide) ?_
    refine wp_istore (pc := 33) (L' := [_, _, _, _, _, _, _, _]) dX9_goes_33 (Nat.le_of_ble_eq_true rfl) rfl rfl ?_
    refine wp_ic (pc := 35) (x := nI 0) dX9_goes_35 ic_0 ?_
    refine wp_istore (pc := 36) (L' := [_, _, _, _, _, _, _, _]) dX9_goes_36 (Nat.le_of_ble_eq_true rfl) rfl rfl ?_
    first | exact loop n 0 M1 true P (by omega) (by omega) (by show (alB Λ u P d, P) = _; rw [ea]) q1.1 s1 (fun _ => hO) | exact loop n 0 M1 false P (by omega) (by omega) (by show (alB Λ u P d, P) = _; rw [ea]) q1.1 s1 (fun q => by cases q)
  · have h17 := b2i_1 h17
    refine wp_aload_n (pc := 20) dX9_goes_20 rfl ?_
    refine wp_iload_n (pc := 21) dX9_goes_21 rfl ?_
    refine wf_callVi (pc := 22) dX9_goes_22 cl_X9_185 (cR_isAlone (s1.rs hR) hL (hw.si s1.2 (Or.inl (by omega))) q1.1 hd) lk_150 rfl rfl rfl rfl (Nat.le_of_ble_eq_true rfl) (by decide) ⟨Nat.le_refl _, Nat.le_refl _⟩ (fun r22 M22 q22 => ?_)
    rw [q22.1, q22.2]
    refine wp_if_eq (pc := 25) 32 dX9_goes_25 (by decide) (fun h25 => ?_) (fun h25 => ?_)
    · have h25 := b2i_0 h25
      have ea : alB Λ u P d = false := by unfold alB; rw [h17, h25]; rfl
      refine wp_ic (pc := 32) (x := nI 0) dX9_goes_32 ic_0 ?_
      refine wp_istore (pc := 33) (L' := [_, _, _, _, _, _, _, _]) dX9_goes_33 (Nat.le_of_ble_eq_true rfl) rfl rfl ?_
      refine wp_ic (pc := 35) (x := nI 0) dX9_goes_35 ic_0 ?_
      refine wp_istore (pc := 36) (L' := [_, _, _, _, _, _, _, _]) dX9_goes_36 (Nat.le_of_ble_eq_true rfl) rfl rfl ?_
      first | exact loop n 0 M1 true P (by omega) (by omega) (by show (alB Λ u P d, P) = _; rw [ea]) q1.1 s1 (fun _ => hO) | exact loop n 0 M1 false P (by omega) (by omega) (by show (alB Λ u P d, P) = _; rw [ea]) q1.1 s1 (fun q => by cases q)
    · have h25 := b2i_1 h25
      have ea : alB Λ u P d = true := by unfold alB; rw [h25]; simp
      refine wp_ic (pc := 28) (x := nI 1) dX9_goes_28 ic_1 ?_
      refine wp_goto (pc := 29) 33 dX9_goes_29 (by decide) ?_
      refine wp_istore (pc := 33) (L' := [_, _, _, _, _, _, _, _]) dX9_goes_33 (Nat.le_of_ble_eq_true rfl) rfl rfl ?_
      refine wp_ic (pc := 35) (x := nI 0) dX9_goes_35 ic_0 ?_
      refine wp_istore (pc := 36) (L' := [_, _, _, _, _, _, _, _]) dX9_goes_36 (Nat.le_of_ble_eq_true rfl) rfl rfl ?_
      first | exact loop n 0 M1 true P (by omega) (by omega) (by show (alB Λ u P d, P) = _; rw [ea]) q1.1 s1 (fun _ => hO) | exact loop n 0 M1 false P (by omega) (by omega) (by show (alB Λ u P d, P) = _; rw [ea]) q1.1 s1 (fun q => by cases q)
