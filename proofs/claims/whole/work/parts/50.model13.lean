/-- whether another dog of its rank is where a dog is -/
def aloB (Λ : Lw) (Q : Pg) (d o : Nat) : Bool := !decide (o = d) && (decide (lRa Λ o = lRa Λ d) && decide (Q o = Q d))
theorem cR_isAlone {l : Launch} {K : CtxT} {M : Mm} {Λ : Lw} {Q : Pg} (hR : RS M) (hL : OkN Λ) (hw : XW M Λ) (hQ : MT M 159 0 Q) {d : Nat} (hd : d < lD Λ) : Ci l K 0 mX9_isAlone [.ref (K.1 + 150), .int (nI d)] M (fun r M' => r = b2i (!anyN (lD Λ) (aloB Λ Q d)) ∧ M' = M) := by
  refine ci_of (L := [some (.ref (K.1 + 150)), some (.int (nI d)), none, none]) (by decide +kernel) (Nat.le_of_ble_eq_true rfl) rfl rfl (fun E => ?_)
  have hD := hL.1
  have loop : ∀ (n o : Nat) (b : Bool), n = lD Λ - o → o ≤ lD Λ → (b = true → ∀ j, j < o → aloB Λ Q d j = false) → (b = false → ∃ j, j < lD Λ ∧ aloB Λ Q d j = true) → Wp E K mX9_isAlone 0 (0, 0) 4 [some (.ref (K.1 + 150)), some (.int (nI d)), some (.int (b2i b)), some (.int (nI o))] [] 168 M 0 0 (zI E K (fun r M' => r = b2i (!anyN (lD Λ) (aloB Λ Q d)) ∧ M' = M)) := by
    intro n
    induction n with
    | zero =>
      intro o b hn hm hb1 hb2
      refine wp_iload_n (pc := 4) dX9_isAlone_4 rfl ?_
      refine wp_aload_n (pc := 5) dX9_isAlone_5 rfl ?_
      refine wf_getI (pc := 6) dX9_isAlone_6 fl_X9_69 lk_150 ?_
      rw [hw.1]
      refine wp_icmp_ge (pc := 9) 71 dX9_isAlone_9 (by decide) (fun h9 => ?_) (fun h9 => ?_)
      · have e : o = lD Λ := by omega
        subst e
        refine wp_iload_n (pc := 71) dX9_isAlone_71 rfl ?_
        refine wf_zret (pc := 72) (b) dX9_isAlone_72 rfl rfl ?_
        refine ⟨?_, rfl⟩
        cases b with
        | true => rw [anyN_f (hb1 rfl)]; rfl
        | false =>
          obtain ⟨j, h1, h2⟩ := hb2 rfl
          rw [anyN_t h1 h2]; rfl
      · exact absurd (nI_le (by omega) (by omega)) h9
    | succ n ih =>
      intro o b hn hm hb1 hb2
      refine wp_iload_n (pc := 4) dX9_isAlone_4 rfl ?_
      refine wp_aload_n (pc := 5) dX9_isAlone_5 rfl ?_
      refine wf_getI (pc := 6) dX9_isAlone_6 fl_X9_69 lk_150 ?_
      rw [hw.1]
      refine wp_icmp_ge (pc := 9) 71 dX9_isAlone_9 (by decide) (fun h9 => ?_) (fun h9 => ?_)
      · exact absurd h9 (nI_ge (by omega) (by omega))
      · refine wp_iload_n (pc := 12) dX9_isAlone_12 rfl ?_
        refine wp_if_eq (pc := 13) 71 dX9_isAlone_13 (by decide) (fun h13 => ?_) (fun h13 => ?_)
        · have h13 := b2i_0 h13
          refine wp_iload_n (pc := 71) dX9_isAlone_71 rfl ?_
          refine wf_zret (pc := 72) (b) dX9_isAlone_72 rfl rfl ?_
          refine ⟨?_, rfl⟩
          obtain ⟨j, h1, h2⟩ := hb2 h13
          rw [anyN_t h1 h2, h13]; rfl
        · have h13 := b2i_1 h13
          refine wp_iload_n (pc := 16) dX9_isAlone_16 rfl ?_
          refine wp_iload_n (pc := 17) dX9_isAlone_17 rfl ?_
          refine wp_icmp_eq (pc := 18) 59 dX9_isAlone_18 (by decide) (fun h18 => ?_) (fun h18 => ?_)
          · have ef : aloB Λ Q d o = false := by unfold aloB; rw [decide_eq_true (show o = d from (nI_eq (by omega) (by omega)).mp h18)]; rfl
            refine wp_ic (pc := 59) (x := nI 1) dX9_isAlone_59 ic_1 ?_
            refine wp_goto (pc := 60) 64 dX9_isAlone_60 (by decide) ?_
            refine wp_istore_n (pc := 64) (L' := [_, _, _, _]) dX9_isAlone_64 (Nat.le_of_ble_eq_true rfl) rfl rfl ?_
            refine wp_iinc1 (pc := 65) (L' := [_, _, _, _]) dX9_isAlone_65 rfl rfl rfl ?_
            refine wp_goto (pc := 68) 4 dX9_isAlone_68 (by decide) ?_
            first | exact ih (o + 1) true (by omega) (by omega) (fun _ j hj => by rcases Nat.lt_succ_iff_lt_or_eq.mp hj with q | rfl; exact hb1 h13 j q; exact ef) (fun q => by cases q) | exact ih (o + 1) false (by omega) (by omega) (fun q => by cases q) (fun _ => ⟨o, by omega, ef⟩)
          · refine wp_aload_n (pc := 21) dX9_isAlone_21 rfl ?_
            refine wf_getR (pc := 22) dX9_isAlone_22 fl_X9_20 lk_150 (hR 150 8 153 rfl) ?_
            refine wp_ic (pc := 25) (x := nI 4) dX9_isAlone_25 ic_4 ?_
            refine wp_iload_n (pc := 26) dX9_isAlone_26 rfl ?_
            refine wp_imul (pc := 27) dX9_isAlone_27 ?_
            refine wp_ic (pc := 28) (x := nI 1) dX9_isAlone_28 ic_1 ?_
            refine wp_iadd (pc := 29) dX9_isAlone_29 ?_
            refine wf_iald (pc := 30) (j := (4 * o + 1)) dX9_isAlone_30 lk_153 (by rw [pk_mul, nI_add]) (by omega) ?_
            rw [show M.1 153 (4 * o + 1) = lRa Λ o from (hw.2.2.2.2.1 o (by omega)).1]
            refine wp_aload_n (pc := 31) dX9_isAlone_31 rfl ?_
            refine wf_getR (pc := 32) dX9_isAlone_32 fl_X9_20 lk_150 (hR 150 8 153 rfl) ?_
            refine wp_ic (pc := 35) (x := nI 4) dX9_isAlone_35 ic_4 ?_
            refine wp_iload_n (pc := 36) dX9_isAlone_36 rfl ?_
            refine wp_imul (pc := 37) dX9_isAlone_37 ?_
            refine wp_ic (pc := 38) (x := nI 1) dX9_isAlone_38 ic_1 ?_
            refine wp_iadd (pc := 39) dX9_isAlone_39 ?_
            refine wf_iald (pc := 40) (j := (4 * d + 1)) dX9_isAlone_40 lk_153 (by rw [pk_mul, nI_add]) (by omega) ?_
            rw [show M.1 153 (4 * d + 1) = lRa Λ d from (hw.2.2.2.2.1 d hd).1]
            refine wp_icmp_ne (pc := 41) 59 dX9_isAlone_41 (by decide) (fun h41 => ?_) (fun h41 => ?_)
            · have ef : aloB Λ Q d o = false := by unfold aloB; rw [decide_eq_false h41]; simp
              refine wp_ic (pc := 59) (x := nI 1) dX9_isAlone_59 ic_1 ?_
              refine wp_goto (pc := 60) 64 dX9_isAlone_60 (by decide) ?_
              refine wp_istore_n (pc := 64) (L' := [_, _, _, _]) dX9_isAlone_64 (Nat.le_of_ble_eq_true rfl) rfl rfl ?_
              refine wp_iinc1 (pc := 65) (L' := [_, _, _, _]) dX9_isAlone_65 rfl rfl rfl ?_
              refine wp_goto (pc := 68) 4 dX9_isAlone_68 (by decide) ?_
              first | exact ih (o + 1) true (by omega) (by omega) (fun _ j hj => by rcases Nat.lt_succ_iff_lt_or_eq.mp hj with q | rfl; exact hb1 h13 j q; exact ef) (fun q => by cases q) | exact ih (o + 1) false (by omega) (by omega) (fun q => by cases q) (fun _ => ⟨o, by omega, ef⟩)
            · refine wp_aload_n (pc := 44) dX9_isAlone_44 rfl ?_
              refine wf_getR (pc := 45) dX9_isAlone_45 fl_X9_38 lk_150 (hR 150 17 159 rfl) ?_
              refine wp_iload_n (pc := 48) dX9_isAlone_48 rfl ?_
              refine wf_iald (pc := 49) (j := o) dX9_isAlone_49 lk_159 rfl (by omega) ?_
              rw [show M.1 159 o = Q o from hQ.at (by omega)]
              refine wp_aload_n (pc := 50) dX9_isAlone_50 rfl ?_
              refine wf_getR (pc := 51) dX9_isAlone_51 fl_X9_38 lk_150 (hR 150 17 159 rfl) ?_
              refine wp_iload_n (pc := 54) dX9_isAlone_54 rfl ?_
              refine wf_iald (pc := 55) (j := d) dX9_isAlone_55 lk_159 rfl (by omega) ?_
              rw [show M.1 159 d = Q d from hQ.at (by omega)]
              refine wp_icmp_eq (pc := 56) 63 dX9_isAlone_56 (by decide) (fun h56 => ?_) (fun h56 => ?_)
              · have ef : aloB Λ Q d o = true := by unfold aloB; rw [decide_eq_false (show ¬ o = d from fun q => h18 (by rw [q])), decide_eq_true h41, decide_eq_true h56]; rfl
                refine wp_ic (pc := 63) (x := nI 0) dX9_isAlone_63 ic_0 ?_
                refine wp_istore_n (pc := 64) (L' := [_, _, _, _]) dX9_isAlone_64 (Nat.le_of_ble_eq_true rfl) rfl rfl ?_
                refine wp_iinc1 (pc := 65) (L' := [_, _, _, _]) dX9_isAlone_65 rfl rfl rfl ?_
                refine wp_goto (pc := 68) 4 dX9_isAlone_68 (by decide) ?_
                first | exact ih (o + 1) true (by omega) (by omega) (fun _ j hj => by rcases Nat.lt_succ_iff_lt_or_eq.mp hj with q | rfl; exact hb1 h13 j q; exact ef) (fun q => by cases q) | exact ih (o + 1) false (by omega) (by omega) (fun q => by cases q) (fun _ => ⟨o, by omega, ef⟩)
              · have ef : aloB Λ Q d o = false := by unfold aloB; rw [decide_eq_false h56]; simp
                refine wp_ic (pc := 59) (x := nI 1) dX9_isAlone_59 ic_1 ?_
                refine wp_goto (pc := 60) 64 dX9_isAlone_60 (by decide) ?_
                refine wp_istore_n (pc := 64) (L' := [_, _, _, _]) dX9_isAlone_64 (Nat.le_of_ble_eq_true rfl) rfl rfl ?_
                refine wp_iinc1 (pc := 65) (L' := [_, _, _, _]) dX9_isAlone_65 rfl rfl rfl ?_
                refine wp_goto (pc := 68) 4 dX9_isAlone_68 (by decide) ?_
                first | exact ih (o + 1) true (by omega) (by omega) (fun _ j hj => by rcases Nat.lt_succ_iff_lt_or_eq.mp hj with q | rfl; exact hb1 h13 j q; exact ef) (fun q => by cases q) | exact ih (o + 1) false (by omega) (by omega) (fun q => by cases q) (fun _ => ⟨o, by omega, ef⟩)
  refine wp_ic (pc := 0) (x := nI 1) dX9_isAlone_0 ic_1 ?_
  refine wp_istore_n (pc := 1) (L' := [_, _, _, _]) dX9_isAlone_1 (Nat.le_of_ble_eq_true rfl) rfl rfl ?_
  refine wp_ic (pc := 2) (x := nI 0) dX9_isAlone_2 ic_0 ?_
  refine wp_istore_n (pc := 3) (L' := [_, _, _, _]) dX9_isAlone_3 (Nat.le_of_ble_eq_true rfl) rfl rfl ?_
  exact loop (lD Λ) 0 true (by omega) (by omega) (fun _ j hj => absurd hj (Nat.not_lt_zero _)) (fun q => by cases q)
