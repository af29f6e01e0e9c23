theorem woN_le (r b : Nat) : woN r b ≤ 9 := Nat.le_of_lt_succ (Nat.mod_lt _ (by decide))
theorem waN_le (r w b : Nat) : waN r w b ≤ 9 := by
  unfold waN
  split
  · exact woN_le r b
  · exact Nat.zero_le _
theorem baN_le (r w b : Nat) : baN r w b ≤ 9 := by
  unfold baN
  split
  · exact Nat.zero_le _
  · exact woN_le r b
theorem rs_eq {r w b : Nat} (hb : b < 5) (hw : w < 5) : rsB r (5 * w + b) = true ↔ woN r b ≤ waN r w b ∧ ∀ o, o < 5 → baN r w o ≤ baN r w b := by
  unfold rsB holdsN
  rw [show (5 * w + b) / 5 = w by omega, show (5 * w + b) % 5 = b by omega, Bool.not_eq_true']
  have e : ∀ o, (decide (waN r w b < waN r o b) || decide (baN r w b < baN r w o)) = false ↔ waN r o b ≤ waN r w b ∧ baN r w o ≤ baN r w b := fun o => by
    rw [Bool.or_eq_false_iff, decide_eq_false_iff_not, decide_eq_false_iff_not, Nat.not_lt, Nat.not_lt]
  constructor
  · intro h
    have h1 : ∀ o, o < 5 → waN r o b ≤ waN r w b ∧ baN r w o ≤ baN r w b := fun o ho => by
      rw [← e]
      cases q : (decide (waN r w b < waN r o b) || decide (baN r w b < baN r w o)) with
      | false => rfl
      | true => rw [anyN_t ho q] at h; cases h
    refine ⟨?_, fun o ho => (h1 o ho).2⟩
    have := (h1 b hb).1
    unfold waN at this ⊢
    rw [if_pos rfl] at this
    exact this
  · rintro ⟨h1, h2⟩
    refine anyN_f (fun o ho => (e o).mpr ⟨?_, h2 o ho⟩)
    by_cases q : o = b
    · rw [show waN r o b = woN r b from if_pos q]; exact h1
    · rw [show waN r o b = 0 from if_neg q]; exact Nat.zero_le _
theorem fst_y {r k : Nat} (h : rsB r k = true) (h0 : cntC (rsB r) k = 0) : fstR r (k + 1) = nI (10 * (k / 5) + k % 5) := if_pos ⟨h, h0⟩
theorem fst_n {r k : Nat} (h : rsB r k = false) : fstR r (k + 1) = fstR r k := if_neg (fun q => by rw [h] at q; cases q.1)
theorem fst_m {r k : Nat} (h : ¬ cntC (rsB r) k = 0) : fstR r (k + 1) = fstR r k := if_neg (fun q => h q.2)
theorem cm_rests {l : Launch} {K : CtxT} {M : Mm} {s : Sv} {B : Nat} (H : XM M s) (V : OkV B s) (hB : B ≤ 9999) {x y : Int32} : Ci l K 2 mX9_rests [.ref (K.1 + 150), .int x, .int y] M (fun r M' => r = oRests x y ∧ XM M' s ∧ Fm M M') := by
  refine ci_of (L := [some (.ref (K.1 + 150)), some (.int x), some (.int y), none, none, none, none, none, none, none, none]) (by decide +kernel) (Nat.le_of_ble_eq_true rfl) rfl rfl (fun E => ?_)
  have inner : ∀ (r wh : Nat) (M5 : Mm), r ≤ 99999 → wh ≤ 1 → XM M5 s → Fm M M5 → ∀ (w b : Nat), w < 5 → b < 5 → (∀ z, Wp E K mX9_rests 2 (0, 0) 159 [some (.ref (K.1 + 150)), some (.int (nI r)), some (.int (nI wh)), some (.int (nI (cntC (rsB r) (5 * w + b)))), some (.int (fstR r (5 * w + b))), some (.int (nI w)), some (.int (nI b)), some (.int (nI (waN r w b))), some (.int (nI (baN r w b))), some (.int (b2i (rsB r (5 * w + b)))), z] [] 168 M5 0 0 (zI E K (fun rv M' => rv = oRests (nI r) (nI wh) ∧ XM M' s ∧ Fm M M'))) → ∀ (q o : Nat) (e : Bool), q = 5 - o → o ≤ 5 → (e = true → woN r b ≤ waN r w b ∧ ∀ j, j < o → baN r w j ≤ baN r w b) → (e = false → rsB r (5 * w + b) = false) → Wp E K mX9_rests 2 (0, 0) 113 [some (.ref (K.1 + 150)), some (.int (nI r)), some (.int (nI wh)), some (.int (nI (cntC (rsB r) (5 * w + b)))), some (.int (fstR r (5 * w + b))), some (.int (nI w)), some (.int (nI b)), some (.int (nI (waN r w b))), some (.int (nI (baN r w b))), some (.int (b2i e)), some (.int (nI o))] [] 168 M5 0 0 (zI E K (fun rv M' => rv = oRests (nI r) (nI wh) ∧ XM M' s ∧ Fm M M')) := by
    intro r wh M5 hr hwh H F w b hw hb cont q
    have hba := baN_le r w b
    induction q with
    | zero =>
      intro o e hq ho he1 he2
      refine wp_iload (pc := 113) dX9_rests_113 rfl ?_
      refine wp_ic (pc := 115) (x := nI 5) dX9_rests_115 ic_5 ?_
      refine wp_icmp_ge (pc := 116) 159 dX9_rests_116 (by decide) (fun h116 => ?_) (fun h116 => ?_)
      · have ee : e = (rsB r (5 * w + b)) := by
          cases e with
          | true => exact ((rs_eq hb hw).mpr ⟨(he1 rfl).1, fun j hj => (he1 rfl).2 j (by omega)⟩).symm
          | false => exact (he2 rfl).symm
        rw [ee]
        exact cont _
      · exact absurd (nI_le (by omega) (by omega)) h116
    | succ q ih =>
      intro o e hq ho he1 he2
      have hbo := baN_le r w o
      refine wp_iload (pc := 113) dX9_rests_113 rfl ?_
      refine wp_ic (pc := 115) (x := nI 5) dX9_rests_115 ic_5 ?_
      refine wp_icmp_ge (pc := 116) 159 dX9_rests_116 (by decide) (fun h116 => ?_) (fun h116 => ?_)
      · exact absurd h116 (nI_ge (by omega) (by omega))
      · refine wp_iload (pc := 119) dX9_rests_119 rfl ?_
        refine wp_if_eq (pc := 121) 150 dX9_rests_121 (by decide) (fun h121 => ?_) (fun h121 => ?_)
        · have h121 := b2i_0 h121
          refine wp_ic (pc := 150) (x := nI 0) dX9_rests_150 ic_0 ?_
          refine wp_istore (pc := 151) (L' := [_, _, _, _, _, _, _, _, _, _, _]) dX9_rests_151 (Nat.le_of_ble_eq_true rfl) rfl rfl ?_
          refine wp_iinc1 (pc := 153) (L' := [_, _, _, _, _, _, _, _, _, _, _]) dX9_rests_153 rfl rfl rfl ?_
          refine wp_goto (pc := 156) 113 dX9_rests_156 (by decide) ?_
          first | (exact ih (o + 1) false (by omega) (by omega) (fun q => by cases q) (fun _ => he2 h121); done) | (exact ih (o + 1) true (by omega) (by omega) (fun _ => ⟨(he1 h121).1, fun j hj => by rcases Nat.lt_succ_iff_lt_or_eq.mp hj with q | q; exact (he1 h121).2 j q; rw [q]; exact ef⟩) (fun q => by cases q); done) | exact ih (o + 1) false (by omega) (by omega) (fun q => by cases q) (fun _ => by cases qq : rsB r (5 * w + b) with | false => rfl | true => exact absurd (((rs_eq hb hw).mp qq).2 o (by omega)) ef)
        · have h121 := b2i_1 h121
          refine wp_iload (pc := 124) dX9_rests_124 rfl ?_
          refine wp_iload (pc := 126) dX9_rests_126 rfl ?_
          refine wp_icmp_ne (pc := 128) 135 dX9_rests_128 (by decide) (fun h128 => ?_) (fun h128 => ?_)
          · have eb : woN r o = baN r w o := by unfold baN; rw [if_neg (fun q => h128 (by rw [q]))]
            refine wp_iload_n (pc := 135) dX9_rests_135 rfl ?_
            refine wp_iload (pc := 136) dX9_rests_136 rfl ?_
            refine wf_callSi (pc := 138) dX9_rests_138 cl_X9_226 (cR_worthOf hr (by omega)) rfl rfl (Nat.le_of_ble_eq_true rfl) (by decide) ⟨Nat.le_refl _, Nat.le_refl _⟩ (fun r138 M138 q138 => ?_)
            rw [q138.1, q138.2]
            refine wp_top (nI (baN r w o)) (congrArg nI eb) ?_
            refine wp_iload (pc := 141) dX9_rests_141 rfl ?_
            refine wp_icmp_gt (pc := 143) 150 dX9_rests_143 (by decide) (fun h143 => ?_) (fun h143 => ?_)
            · have ef : ¬ baN r w o ≤ baN r w b := fun q => absurd (nI_le q (by omega)) (Int32.not_le.mpr h143)
              refine wp_ic (pc := 150) (x := nI 0) dX9_rests_150 ic_0 ?_
              refine wp_istore (pc := 151) (L' := [_, _, _, _, _, _, _, _, _, _, _]) dX9_rests_151 (Nat.le_of_ble_eq_true rfl) rfl rfl ?_
              refine wp_iinc1 (pc := 153) (L' := [_, _, _, _, _, _, _, _, _, _, _]) dX9_rests_153 rfl rfl rfl ?_
              refine wp_goto (pc := 156) 113 dX9_rests_156 (by decide) ?_
              first | (exact ih (o + 1) false (by omega) (by omega) (fun q => by cases q) (fun _ => he2 h121); done) | (exact ih (o + 1) true (by omega) (by omega) (fun _ => ⟨(he1 h121).1, fun j hj => by rcases Nat.lt_succ_iff_lt_or_eq.mp hj with q | q; exact (he1 h121).2 j q; rw [q]; exact ef⟩) (fun q => by cases q); done) | exact ih (o + 1) false (by omega) (by omega) (fun q => by cases q) (fun _ => by cases qq : rsB r (5 * w + b) with | false => rfl | true => exact absurd (((rs_eq hb hw).mp qq).2 o (by omega)) ef)
            · have ef : baN r w o ≤ baN r w b := by rcases Nat.lt_or_ge (baN r w b) (baN r w o) with q | q; exact absurd (nI_lt q (by omega)) h143; exact q
              refine wp_ic (pc := 146) (x := nI 1) dX9_rests_146 ic_1 ?_
              refine wp_goto (pc := 147) 151 dX9_rests_147 (by decide) ?_
              refine wp_istore (pc := 151) (L' := [_, _, _, _, _, _, _, _, _, _, _]) dX9_rests_151 (Nat.le_of_ble_eq_true rfl) rfl rfl ?_
              refine wp_iinc1 (pc := 153) (L' := [_, _, _, _, _, _, _, _, _, _, _]) dX9_rests_153 rfl rfl rfl ?_
              refine wp_goto (pc := 156) 113 dX9_rests_156 (by decide) ?_
              first | (exact ih (o + 1) false (by omega) (by omega) (fun q => by cases q) (fun _ => he2 h121); done) | (exact ih (o + 1) true (by omega) (by omega) (fun _ => ⟨(he1 h121).1, fun j hj => by rcases Nat.lt_succ_iff_lt_or_eq.mp hj with q | q; exact (he1 h121).2 j q; rw [q]; exact ef⟩) (fun q => by cases q); done) | exact ih (o + 1) false (by omega) (by omega) (fun q => by cases q) (fun _ => by cases qq : rsB r (5 * w + b) with | false => rfl | true => exact absurd (((rs_eq hb hw).mp qq).2 o (by omega)) ef)
          · have eb : 0 = baN r w o := by unfold baN; rw [if_pos ((nI_eq (by omega) (by omega)).mp h128).symm]
            refine wp_ic (pc := 131) (x := nI 0) dX9_rests_131 ic_0 ?_
            refine wp_goto (pc := 132) 141 dX9_rests_132 (by decide) ?_
            refine wp_top (nI (baN r w o)) (congrArg nI eb) ?_
            refine wp_iload (pc := 141) dX9_rests_141 rfl ?_
            refine wp_icmp_gt (pc := 143) 150 dX9_rests_143 (by decide) (fun h143 => ?_) (fun h143 => ?_)
            · have ef : ¬ baN r w o ≤ baN r w b := fun q => absurd (nI_le q (by omega)) (Int32.not_le.mpr h143)
              refine wp_ic (pc := 150) (x := nI 0) dX9_rests_150 ic_0 ?_
              refine wp_istore (pc := 151) (L' := [_, _, _, _, _, _, _, _, _, _, _]) dX9_rests_151 (Nat.le_of_ble_eq_true rfl) rfl rfl ?_
              refine wp_iinc1 (pc := 153) (L' := [_, _, _, _, _, _, _, _, _, _, _]) dX9_rests_153 rfl rfl rfl ?_
              refine wp_goto (pc := 156) 113 dX9_rests_156 (by decide) ?_
              first | (exact ih (o + 1) false (by omega) (by omega) (fun q => by cases q) (fun _ => he2 h121); done) | (exact ih (o + 1) true (by omega) (by omega) (fun _ => ⟨(he1 h121).1, fun j hj => by rcases Nat.lt_succ_iff_lt_or_eq.mp hj with q | q; exact (he1 h121).2 j q; rw [q]; exact ef⟩) (fun q => by cases q); done) | exact ih (o + 1) false (by omega) (by omega) (fun q => by cases q) (fun _ => by cases qq : rsB r (5 * w + b) with | false => rfl | true => exact absurd (((rs_eq hb hw).mp qq).2 o (by omega)) ef)
            · have ef : baN r w o ≤ baN r w b := by rcases Nat.lt_or_ge (baN r w b) (baN r w o) with q | q; exact absurd (nI_lt q (by omega)) h143; exact q
              refine wp_ic (pc := 146) (x := nI 1) dX9_rests_146 ic_1 ?_
              refine wp_goto (pc := 147) 151 dX9_rests_147 (by decide) ?_
              refine wp_istore (pc := 151) (L' := [_, _, _, _, _, _, _, _, _, _, _]) dX9_rests_151 (Nat.le_of_ble_eq_true rfl) rfl rfl ?_
              refine wp_iinc1 (pc := 153) (L' := [_, _, _, _, _, _, _, _, _, _, _]) dX9_rests_153 rfl rfl rfl ?_
              refine wp_goto (pc := 156) 113 dX9_rests_156 (by decide) ?_
              first | (exact ih (o + 1) false (by omega) (by omega) (fun q => by cases q) (fun _ => he2 h121); done) | (exact ih (o + 1) true (by omega) (by omega) (fun _ => ⟨(he1 h121).1, fun j hj => by rcases Nat.lt_succ_iff_lt_or_eq.mp hj with q | q; exact (he1 h121).2 j q; rw [q]; exact ef⟩) (fun q => by cases q); done) | exact ih (o + 1) false (by omega) (by omega) (fun q => by cases q) (fun _ => by cases qq : rsB r (5 * w + b) with | false => rfl | true => exact absurd (((rs_eq hb hw).mp qq).2 o (by omega)) ef)
  have mid : ∀ (r wh : Nat) (M5 : Mm), r ≤ 99999 → wh ≤ 1 → XM M5 s → Fm M M5 → ∀ (w : Nat), w < 5 → (∀ z1 z2 z3 z4 z5, Wp E K mX9_rests 2 (0, 0) 202 [some (.ref (K.1 + 150)), some (.int (nI r)), some (.int (nI wh)), some (.int (nI (cntC (rsB r) (5 * w + 5)))), some (.int (fstR r (5 * w + 5))), some (.int (nI w)), z1, z2, z3, z4, z5] [] 168 M5 0 0 (zI E K (fun rv M' => rv = oRests (nI r) (nI wh) ∧ XM M' s ∧ Fm M M'))) → ∀ (q b : Nat) (z2 z3 z4 z5 : Option Value), q = 5 - b → b ≤ 5 → Wp E K mX9_rests 2 (0, 0) 48 [some (.ref (K.1 + 150)), some (.int (nI r)), some (.int (nI wh)), some (.int (nI (cntC (rsB r) (5 * w + b)))), some (.int (fstR r (5 * w + b))), some (.int (nI w)), some (.int (nI b)), z2, z3, z4, z5] [] 168 M5 0 0 (zI E K (fun rv M' => rv = oRests (nI r) (nI wh) ∧ XM M' s ∧ Fm M M')) := by
    intro r wh M5 hr hwh H F w hw cont q
    induction q with
    | zero =>
      intro b z2 z3 z4 z5 hq hb
      refine wp_iload (pc := 48) dX9_rests_48 rfl ?_
      refine wp_ic (pc := 50) (x := nI 5) dX9_rests_50 ic_5 ?_
      refine wp_icmp_ge (pc := 51) 202 dX9_rests_51 (by decide) (fun h51 => ?_) (fun h51 => ?_)
      · rw [show b = 5 by omega]
        exact cont _ _ _ _ _
      · exact absurd (nI_le (by omega) (by omega)) h51
    | succ q ih =>
      intro b z2 z3 z4 z5 hq hb
      have hcl := cntC_le (rsB r) (5 * w + b)
      have hwo := woN_le r b
      have hwa := waN_le r w b
      refine wp_iload (pc := 48) dX9_rests_48 rfl ?_
      refine wp_ic (pc := 50) (x := nI 5) dX9_rests_50 ic_5 ?_
      refine wp_icmp_ge (pc := 51) 202 dX9_rests_51 (by decide) (fun h51 => ?_) (fun h51 => ?_)
      · exact absurd h51 (nI_ge (by omega) (by omega))
      · refine wp_iload (pc := 54) dX9_rests_54 rfl ?_
        refine wp_iload (pc := 56) dX9_rests_56 rfl ?_
        refine wp_icmp_ne (pc := 58) 70 dX9_rests_58 (by decide) (fun h58 => ?_) (fun h58 => ?_)
        · have ewa : 0 = waN r w b := by unfold waN; rw [if_neg (fun q => h58 (by rw [q]))]
          refine wp_ic (pc := 70) (x := nI 0) dX9_rests_70 ic_0 ?_
          refine wp_top (nI (waN r w b)) (congrArg nI ewa) ?_
          refine wp_istore (pc := 71) (L' := [_, _, _, _, _, _, _, _, _, _, _]) dX9_rests_71 (Nat.le_of_ble_eq_true rfl) rfl rfl ?_
          refine wp_iload (pc := 73) dX9_rests_73 rfl ?_
          refine wp_iload (pc := 75) dX9_rests_75 rfl ?_
          refine wp_icmp_ne (pc := 77) 84 dX9_rests_77 (by decide) (fun h77 => ?_) (fun h77 => ?_)
          · have eba : woN r b = baN r w b := by unfold baN; rw [if_neg (fun q => h77 (by rw [q]))]
            refine wp_iload_n (pc := 84) dX9_rests_84 rfl ?_
            refine wp_iload (pc := 85) dX9_rests_85 rfl ?_
            refine wf_callSi (pc := 87) dX9_rests_87 cl_X9_226 (cR_worthOf hr (by omega)) rfl rfl (Nat.le_of_ble_eq_true rfl) (by decide) ⟨Nat.le_refl _, Nat.le_refl _⟩ (fun r87 M87 q87 => ?_)
            rw [q87.1, q87.2]
            refine wp_top (nI (baN r w b)) (congrArg nI eba) ?_
            refine wp_istore (pc := 90) (L' := [_, _, _, _, _, _, _, _, _, _, _]) dX9_rests_90 (Nat.le_of_ble_eq_true rfl) rfl rfl ?_
            refine wp_iload_n (pc := 92) dX9_rests_92 rfl ?_
            refine wp_iload (pc := 93) dX9_rests_93 rfl ?_
            refine wf_callSi (pc := 95) dX9_rests_95 cl_X9_226 (cR_worthOf hr (by omega)) rfl rfl (Nat.le_of_ble_eq_true rfl) (by decide) ⟨Nat.le_refl _, Nat.le_refl _⟩ (fun r95 M95 q95 => ?_)
            rw [q95.1, q95.2]
            refine wp_iload (pc := 98) dX9_rests_98 rfl ?_
            refine wp_icmp_gt (pc := 100) 107 dX9_rests_100 (by decide) (fun h100 => ?_) (fun h100 => ?_)
            · have ef : ¬ woN r b ≤ waN r w b := fun q => absurd (nI_le q (by omega)) (Int32.not_le.mpr h100)
              refine wp_ic (pc := 107) (x := nI 0) dX9_rests_107 ic_0 ?_
              refine wp_istore (pc := 108) (L' := [_, _, _, _, _, _, _, _, _, _, _]) dX9_rests_108 (Nat.le_of_ble_eq_true rfl) rfl rfl ?_
              refine wp_ic (pc := 110) (x := nI 0) dX9_rests_110 ic_0 ?_
              refine wp_istore (pc := 111) (L' := [_, _, _, _, _, _, _, _, _, _, _]) dX9_rests_111 (Nat.le_of_ble_eq_true rfl) rfl rfl ?_
              first | refine inner r wh M5 hr hwh H F w b hw (by omega) (fun z6 => ?_) 5 0 true (by omega) (by omega) (fun _ => ⟨ef, fun j hj => absurd hj (Nat.not_lt_zero _)⟩) (fun q => by cases q) | refine inner r wh M5 hr hwh H F w b hw (by omega) (fun z6 => ?_) 5 0 false (by omega) (by omega) (fun q => by cases q) (fun _ => by cases qq : rsB r (5 * w + b) with | false => rfl | true => exact absurd ((rs_eq (by omega) hw).mp qq).1 ef)
              refine wp_iload (pc := 159) dX9_rests_159 rfl ?_
              refine wp_if_eq (pc := 161) 179 dX9_rests_161 (by decide) (fun h161 => ?_) (fun h161 => ?_)
              · have h161 := b2i_0 h161
                have h161' : (rsB r (5 * w + b)) = false := h161
                refine wp_iload (pc := 179) dX9_rests_179 rfl ?_
                refine wp_istore (pc := 181) (L' := [_, _, _, _, _, _, _, _, _, _, _]) dX9_rests_181 (Nat.le_of_ble_eq_true rfl) rfl rfl ?_
                refine wp_iload_n (pc := 183) dX9_rests_183 rfl ?_
                refine wp_iload (pc := 184) dX9_rests_184 rfl ?_
                refine wp_if_eq (pc := 186) 193 dX9_rests_186 (by decide) (fun h186 => ?_) (fun h186 => ?_)
                · have h186 := b2i_0 h186
                  have h161 : (rsB r (5 * w + b)) = false := h186
                  refine wp_ic (pc := 193) (x := nI 0) dX9_rests_193 ic_0 ?_
                  refine wp_iadd (pc := 194) dX9_rests_194 ?_
                  refine wp_istore_n (pc := 195) (L' := [_, _, _, _, _, _, _, _, _, _, _]) dX9_rests_195 (Nat.le_of_ble_eq_true rfl) rfl rfl ?_
                  first | (exact absurd (h161'.symm.trans h161) (by decide); done) | ((refine wp_iinc1 (pc := 196) (L' := [_, _, _, _, _, _, _, _, _, _, _]) dX9_rests_196 rfl rfl rfl ?_); (refine wp_goto (pc := 199) 48 dX9_rests_199 (by decide) ?_); (have := ih (b + 1) (some (.int (nI (waN r w b)))) (some (.int (nI (baN r w b)))) (some (.int (b2i (rsB r (5 * w + b))))) z6 (by omega) (by omega)); (rw [show 5 * w + (b + 1) = 5 * w + b + 1 from rfl] at this); (first | (rw [cnt_n h161, fst_n h161] at this; rw [nI_add]; exact this) | (rw [cnt_y h161, fst_m hc0] at this; rw [nI_add]; exact this) | (rw [cnt_y h161, fst_y h161 hc0, show (5 * w + b) / 5 = w by omega, show (5 * w + b) % 5 = b by omega] at this; rw [nI_add]; exact this)))
                · have h186 := b2i_1 h186
                  have h161 : (rsB r (5 * w + b)) = true := h186
                  refine wp_ic (pc := 189) (x := nI 1) dX9_rests_189 ic_1 ?_
                  refine wp_goto (pc := 190) 194 dX9_rests_190 (by decide) ?_
                  refine wp_iadd (pc := 194) dX9_rests_194 ?_
                  refine wp_istore_n (pc := 195) (L' := [_, _, _, _, _, _, _, _, _, _, _]) dX9_rests_195 (Nat.le_of_ble_eq_true rfl) rfl rfl ?_
                  first | (exact absurd (h161'.symm.trans h161) (by decide); done) | ((refine wp_iinc1 (pc := 196) (L' := [_, _, _, _, _, _, _, _, _, _, _]) dX9_rests_196 rfl rfl rfl ?_); (refine wp_goto (pc := 199) 48 dX9_rests_199 (by decide) ?_); (have := ih (b + 1) (some (.int (nI (waN r w b)))) (some (.int (nI (baN r w b)))) (some (.int (b2i (rsB r (5 * w + b))))) z6 (by omega) (by omega)); (rw [show 5 * w + (b + 1) = 5 * w + b + 1 from rfl] at this); (first | (rw [cnt_n h161, fst_n h161] at this; rw [nI_add]; exact this) | (rw [cnt_y h161, fst_m hc0] at this; rw [nI_add]; exact this) | (rw [cnt_y h161, fst_y h161 hc0, show (5 * w + b) / 5 = w by omega, show (5 * w + b) % 5 = b by omega] at this; rw [nI_add]; exact this)))
              · have h161 := b2i_1 h161
                have h161' : (rsB r (5 * w + b)) = true := h161
                refine wp_iload_n (pc := 164) dX9_rests_164 rfl ?_
                refine wp_if_ne (pc := 165) 179 dX9_rests_165 (by decide) (fun h165 => ?_) (fun h165 => ?_)
                · have hc0 : ¬ cntC (rsB r) (5 * w + b) = 0 := fun q => h165 (by rw [q]; rfl)
                  refine wp_iload (pc := 179) dX9_rests_179 rfl ?_
                  refine wp_istore (pc := 181) (L' := [_, _, _, _, _, _, _, _, _, _, _]) dX9_rests_181 (Nat.le_of_ble_eq_true rfl) rfl rfl ?_
                  refine wp_iload_n (pc := 183) dX9_rests_183 rfl ?_
                  refine wp_iload (pc := 184) dX9_rests_184 rfl ?_
                  refine wp_if_eq (pc := 186) 193 dX9_rests_186 (by decide) (fun h186 => ?_) (fun h186 => ?_)
                  · have h186 := b2i_0 h186
                    have h161 : (rsB r (5 * w + b)) = false := h186
                    refine wp_ic (pc := 193) (x := nI 0) dX9_rests_193 ic_0 ?_
                    refine wp_iadd (pc := 194) dX9_rests_194 ?_
                    refine wp_istore_n (pc := 195) (L' := [_, _, _, _, _, _, _, _, _, _, _]) dX9_rests_195 (Nat.le_of_ble_eq_true rfl) rfl rfl ?_
                    first | (exact absurd (h161'.symm.trans h161) (by decide); done) | ((refine wp_iinc1 (pc := 196) (L' := [_, _, _, _, _, _, _, _, _, _, _]) dX9_rests_196 rfl rfl rfl ?_); (refine wp_goto (pc := 199) 48 dX9_rests_199 (by decide) ?_); (have := ih (b + 1) (some (.int (nI (waN r w b)))) (some (.int (nI (baN r w b)))) (some (.int (b2i (rsB r (5 * w + b))))) z6 (by omega) (by omega)); (rw [show 5 * w + (b + 1) = 5 * w + b + 1 from rfl] at this); (first | (rw [cnt_n h161, fst_n h161] at this; rw [nI_add]; exact this) | (rw [cnt_y h161, fst_m hc0] at this; rw [nI_add]; exact this) | (rw [cnt_y h161, fst_y h161 hc0, show (5 * w + b) / 5 = w by omega, show (5 * w + b) % 5 = b by omega] at this; rw [nI_add]; exact this)))
                  · have h186 := b2i_1 h186
                    have h161 : (rsB r (5 * w + b)) = true := h186
                    refine wp_ic (pc := 189) (x := nI 1) dX9_rests_189 ic_1 ?_
                    refine wp_goto (pc := 190) 194 dX9_rests_190 (by decide) ?_
                    refine wp_iadd (pc := 194) dX9_rests_194 ?_
                    refine wp_istore_n (pc := 195) (L' := [_, _, _, _, _, _, _, _, _, _, _]) dX9_rests_195 (Nat.le_of_ble_eq_true rfl) rfl rfl ?_
                    first | (exact absurd (h161'.symm.trans h161) (by decide); done) | ((refine wp_iinc1 (pc := 196) (L' := [_, _, _, _, _, _, _, _, _, _, _]) dX9_rests_196 rfl rfl rfl ?_); (refine wp_goto (pc := 199) 48 dX9_rests_199 (by decide) ?_); (have := ih (b + 1) (some (.int (nI (waN r w b)))) (some (.int (nI (baN r w b)))) (some (.int (b2i (rsB r (5 * w + b))))) z6 (by omega) (by omega)); (rw [show 5 * w + (b + 1) = 5 * w + b + 1 from rfl] at this); (first | (rw [cnt_n h161, fst_n h161] at this; rw [nI_add]; exact this) | (rw [cnt_y h161, fst_m hc0] at this; rw [nI_add]; exact this) | (rw [cnt_y h161, fst_y h161 hc0, show (5 * w + b) / 5 = w by omega, show (5 * w + b) % 5 = b by omega] at this; rw [nI_add]; exact this)))
                · have hc0 : cntC (rsB r) (5 * w + b) = 0 := (nI_eq (by omega) (by omega)).mp h165
                  refine wp_bipush (pc := 168) (x := nI 10) dX9_rests_168 bp_10 ?_
                  refine wp_iload (pc := 170) dX9_rests_170 rfl ?_
                  refine wp_imul (pc := 172) dX9_rests_172 ?_
                  refine wp_iload (pc := 173) dX9_rests_173 rfl ?_
                  refine wp_iadd (pc := 175) dX9_rests_175 ?_
                  refine wp_top (nI (10 * w + b)) (by rw [pk_mul, nI_add]) ?_
                  refine wp_goto (pc := 176) 181 dX9_rests_176 (by decide) ?_
                  refine wp_istore (pc := 181) (L' := [_, _, _, _, _, _, _, _, _, _, _]) dX9_rests_181 (Nat.le_of_ble_eq_true rfl) rfl rfl ?_
                  refine wp_iload_n (pc := 183) dX9_rests_183 rfl ?_
                  refine wp_iload (pc := 184) dX9_rests_184 rfl ?_
                  refine wp_if_eq (pc := 186) 193 dX9_rests_186 (by decide) (fun h186 => ?_) (fun h186 => ?_)
                  · have h186 := b2i_0 h186
                    have h161 : (rsB r (5 * w + b)) = false := h186
                    refine wp_ic (pc := 193) (x := nI 0) dX9_rests_193 ic_0 ?_
                    refine wp_iadd (pc := 194) dX9_rests_194 ?_
                    refine wp_istore_n (pc := 195) (L' := [_, _, _, _, _, _, _, _, _, _, _]) dX9_rests_195 (Nat.le_of_ble_eq_true rfl) rfl rfl ?_
                    first | (exact absurd (h161'.symm.trans h161) (by decide); done) | ((refine wp_iinc1 (pc := 196) (L' := [_, _, _, _, _, _, _, _, _, _, _]) dX9_rests_196 rfl rfl rfl ?_); (refine wp_goto (pc := 199) 48 dX9_rests_199 (by decide) ?_); (have := ih (b + 1) (some (.int (nI (waN r w b)))) (some (.int (nI (baN r w b)))) (some (.int (b2i (rsB r (5 * w + b))))) z6 (by omega) (by omega)); (rw [show 5 * w + (b + 1) = 5 * w + b + 1 from rfl] at this); (first | (rw [cnt_n h161, fst_n h161] at this; rw [nI_add]; exact this) | (rw [cnt_y h161, fst_m hc0] at this; rw [nI_add]; exact this) | (rw [cnt_y h161, fst_y h161 hc0, show (5 * w + b) / 5 = w by omega, show (5 * w + b) % 5 = b by omega] at this; rw [nI_add]; exact this)))
                  · have h186 := b2i_1 h186
                    have h161 : (rsB r (5 * w + b)) = true := h186
                    refine wp_ic (pc := 189) (x := nI 1) dX9_rests_189 ic_1 ?_
                    refine wp_goto (pc := 190) 194 dX9_rests_190 (by decide) ?_
                    refine wp_iadd (pc := 194) dX9_rests_194 ?_
                    refine wp_istore_n (pc := 195) (L' := [_, _, _, _, _, _, _, _, _, _, _]) dX9_rests_195 (Nat.le_of_ble_eq_true rfl) rfl rfl ?_
                    first | (exact absurd (h161'.symm.trans h161) (by decide); done) | ((refine wp_iinc1 (pc := 196) (L' := [_, _, _, _, _, _, _, _, _, _, _]) dX9_rests_196 rfl rfl rfl ?_); (refine wp_goto (pc := 199) 48 dX9_rests_199 (by decide) ?_); (have := ih (b + 1) (some (.int (nI (waN r w b)))) (some (.int (nI (baN r w b)))) (some (.int (b2i (rsB r (5 * w + b))))) z6 (by omega) (by omega)); (rw [show 5 * w + (b + 1) = 5 * w + b + 1 from rfl] at this); (first | (rw [cnt_n h161, fst_n h161] at this; rw [nI_add]; exact this) | (rw [cnt_y h161, fst_m hc0] at this; rw [nI_add]; exact this) | (rw [cnt_y h161, fst_y h161 hc0, show (5 * w + b) / 5 = w by omega, show (5 * w + b) % 5 = b by omega] at this; rw [nI_add]; exact this)))
            · have ef : woN r b ≤ waN r w b := by rcases Nat.lt_or_ge (waN r w b) (woN r b) with q | q; exact absurd (nI_lt q (by omega)) h100; exact q
              refine wp_ic (pc := 103) (x := nI 1) dX9_rests_103 ic_1 ?_
              refine wp_goto (pc := 104) 108 dX9_rests_104 (by decide) ?_
              refine wp_istore (pc := 108) (L' := [_, _, _, _, _, _, _, _, _, _, _]) dX9_rests_108 (Nat.le_of_ble_eq_true rfl) rfl rfl ?_
              refine wp_ic (pc := 110) (x := nI 0) dX9_rests_110 ic_0 ?_
              refine wp_istore (pc := 111) (L' := [_, _, _, _, _, _, _, _, _, _, _]) dX9_rests_111 (Nat.le_of_ble_eq_true rfl) rfl rfl ?_
              first | refine inner r wh M5 hr hwh H F w b hw (by omega) (fun z6 => ?_) 5 0 true (by omega) (by omega) (fun _ => ⟨ef, fun j hj => absurd hj (Nat.not_lt_zero _)⟩) (fun q => by cases q) | refine inner r wh M5 hr hwh H F w b hw (by omega) (fun z6 => ?_) 5 0 false (by omega) (by omega) (fun q => by cases q) (fun _ => by cases qq : rsB r (5 * w + b) with | false => rfl | true => exact absurd ((rs_eq (by omega) hw).mp qq).1 ef)
              refine wp_iload (pc := 159) dX9_rests_159 rfl ?_
              refine wp_if_eq (pc := 161) 179 dX9_rests_161 (by decide) (fun h161 => ?_) (fun h161 => ?_)
              · have h161 := b2i_0 h161
                have h161' : (rsB r (5 * w + b)) = false := h161
                refine wp_iload (pc := 179) dX9_rests_179 rfl ?_
                refine wp_istore (pc := 181) (L' := [_, _, _, _, _, _, _, _, _, _, _]) dX9_rests_181 (Nat.le_of_ble_eq_true rfl) rfl rfl ?_
                refine wp_iload_n (pc := 183) dX9_rests_183 rfl ?_
                refine wp_iload (pc := 184) dX9_rests_184 rfl ?_
                refine wp_if_eq (pc := 186) 193 dX9_rests_186 (by decide) (fun h186 => ?_) (fun h186 => ?_)
                · have h186 := b2i_0 h186
                  have h161 : (rsB r (5 * w + b)) = false := h186
                  refine wp_ic (pc := 193) (x := nI 0) dX9_rests_193 ic_0 ?_
                  refine wp_iadd (pc := 194) dX9_rests_194 ?_
                  refine wp_istore_n (pc := 195) (L' := [_, _, _, _, _, _, _, _, _, _, _]) dX9_rests_195 (Nat.le_of_ble_eq_true rfl) rfl rfl ?_
                  first | (exact absurd (h161'.symm.trans h161) (by decide); done) | ((refine wp_iinc1 (pc := 196) (L' := [_, _, _, _, _, _, _, _, _, _, _]) dX9_rests_196 rfl rfl rfl ?_); (refine wp_goto (pc := 199) 48 dX9_rests_199 (by decide) ?_); (have := ih (b + 1) (some (.int (nI (waN r w b)))) (some (.int (nI (baN r w b)))) (some (.int (b2i (rsB r (5 * w + b))))) z6 (by omega) (by omega)); (rw [show 5 * w + (b + 1) = 5 * w + b + 1 from rfl] at this); (first | (rw [cnt_n h161, fst_n h161] at this; rw [nI_add]; exact this) | (rw [cnt_y h161, fst_m hc0] at this; rw [nI_add]; exact this) | (rw [cnt_y h161, fst_y h161 hc0, show (5 * w + b) / 5 = w by omega, show (5 * w + b) % 5 = b by omega] at this; rw [nI_add]; exact this)))
                · have h186 := b2i_1 h186
                  have h161 : (rsB r (5 * w + b)) = true := h186
                  refine wp_ic (pc := 189) (x := nI 1) dX9_rests_189 ic_1 ?_
                  refine wp_goto (pc := 190) 194 dX9_rests_190 (by decide) ?_
                  refine wp_iadd (pc := 194) dX9_rests_194 ?_
                  refine wp_istore_n (pc := 195) (L' := [_, _, _, _, _, _, _, _, _, _, _]) dX9_rests_195 (Nat.le_of_ble_eq_true rfl) rfl rfl ?_
                  first | (exact absurd (h161'.symm.trans h161) (by decide); done) | ((refine wp_iinc1 (pc := 196) (L' := [_, _, _, _, _, _, _, _, _, _, _]) dX9_rests_196 rfl rfl rfl ?_); (refine wp_goto (pc := 199) 48 dX9_rests_199 (by decide) ?_); (have := ih (b + 1) (some (.int (nI (waN r w b)))) (some (.int (nI (baN r w b)))) (some (.int (b2i (rsB r (5 * w + b))))) z6 (by omega) (by omega)); (rw [show 5 * w + (b + 1) = 5 * w + b + 1 from rfl] at this); (first | (rw [cnt_n h161, fst_n h161] at this; rw [nI_add]; exact this) | (rw [cnt_y h161, fst_m hc0] at this; rw [nI_add]; exact this) | (rw [cnt_y h161, fst_y h161 hc0, show (5 * w + b) / 5 = w by omega, show (5 * w + b) % 5 = b by omega] at this; rw [nI_add]; exact this)))
              · have h161 := b2i_1 h161
                have h161' : (rsB r (5 * w + b)) = true := h161
                refine wp_iload_n (pc := 164) dX9_rests_164 rfl ?_
                refine wp_if_ne (pc := 165) 179 dX9_rests_165 (by decide) (fun h165 => ?_) (fun h165 => ?_)
                · have hc0 : ¬ cntC (rsB r) (5 * w + b) = 0 := fun q => h165 (by rw [q]; rfl)
                  refine wp_iload (pc := 179) dX9_rests_179 rfl ?_
                  refine wp_istore (pc := 181) (L' := [_, _, _, _, _, _, _, _, _, _, _]) dX9_rests_181 (Nat.le_of_ble_eq_true rfl) rfl rfl ?_
                  refine wp_iload_n (pc := 183) dX9_rests_183 rfl ?_
                  refine wp_iload (pc := 184) dX9_rests_184 rfl ?_
                  refine wp_if_eq (pc := 186) 193 dX9_rests_186 (by decide) (fun h186 => ?_) (fun h186 => ?_)
                  · have h186 := b2i_0 h186
                    have h161 : (rsB r (5 * w + b)) = false := h186
                    refine wp_ic (pc := 193) (x := nI 0) dX9_rests_193 ic_0 ?_
                    refine wp_iadd (pc := 194) dX9_rests_194 ?_
                    refine wp_istore_n (pc := 195) (L' := [_, _, _, _, _, _, _, _, _, _, _]) dX9_rests_195 (Nat.le_of_ble_eq_true rfl) rfl rfl ?_
                    first | (exact absurd (h161'.symm.trans h161) (by decide); done) | ((refine wp_iinc1 (pc := 196) (L' := [_, _, _, _, _, _, _, _, _, _, _]) dX9_rests_196 rfl rfl rfl ?_); (refine wp_goto (pc := 199) 48 dX9_rests_199 (by decide) ?_); (have := ih (b + 1) (some (.int (nI (waN r w b)))) (some (.int (nI (baN r w b)))) (some (.int (b2i (rsB r (5 * w + b))))) z6 (by omega) (by omega)); (rw [show 5 * w + (b + 1) = 5 * w + b + 1 from rfl] at this); (first | (rw [cnt_n h161, fst_n h161] at this; rw [nI_add]; exact this) | (rw [cnt_y h161, fst_m hc0] at this; rw [nI_add]; exact this) | (rw [cnt_y h161, fst_y h161 hc0, show (5 * w + b) / 5 = w by omega, show (5 * w + b) % 5 = b by omega] at this; rw [nI_add]; exact this)))
                  · have h186 := b2i_1 h186
                    have h161 : (rsB r (5 * w + b)) = true := h186
                    refine wp_ic (pc := 189) (x := nI 1) dX9_rests_189 ic_1 ?_
                    refine wp_goto (pc := 190) 194 dX9_rests_190 (by decide) ?_
                    refine wp_iadd (pc := 194) dX9_rests_194 ?_
                    refine wp_istore_n (pc := 195) (L' := [_, _, _, _, _, _, _, _, _, _, _]) dX9_rests_195 (Nat.le_of_ble_eq_true rfl) rfl rfl ?_
                    first | (exact absurd (h161'.symm.trans h161) (by decide); done) | ((refine wp_iinc1 (pc := 196) (L' := [_, _, _, _, _, _, _, _, _, _, _]) dX9_rests_196 rfl rfl rfl ?_); (refine wp_goto (pc := 199) 48 dX9_rests_199 (by decide) ?_); (have := ih (b + 1) (some (.int (nI (waN r w b)))) (some (.int (nI (baN r w b)))) (some (.int (b2i (rsB r (5 * w + b))))) z6 (by omega) (by omega)); (rw [show 5 * w + (b + 1) = 5 * w + b + 1 from rfl] at this); (first | (rw [cnt_n h161, fst_n h161] at this; rw [nI_add]; exact this) | (rw [cnt_y h161, fst_m hc0] at this; rw [nI_add]; exact this) | (rw [cnt_y h161, fst_y h161 hc0, show (5 * w + b) / 5 = w by omega, show (5 * w + b) % 5 = b by omega] at this; rw [nI_add]; exact this)))
                · have hc0 : cntC (rsB r) (5 * w + b) = 0 := (nI_eq (by omega) (by omega)).mp h165
                  refine wp_bipush (pc := 168) (x := nI 10) dX9_rests_168 bp_10 ?_
                  refine wp_iload (pc := 170) dX9_rests_170 rfl ?_
                  refine wp_imul (pc := 172) dX9_rests_172 ?_
                  refine wp_iload (pc := 173) dX9_rests_173 rfl ?_
                  refine wp_iadd (pc := 175) dX9_rests_175 ?_
                  refine wp_top (nI (10 * w + b)) (by rw [pk_mul, nI_add]) ?_
                  refine wp_goto (pc := 176) 181 dX9_rests_176 (by decide) ?_
                  refine wp_istore (pc := 181) (L' := [_, _, _, _, _, _, _, _, _, _, _]) dX9_rests_181 (Nat.le_of_ble_eq_true rfl) rfl rfl ?_
                  refine wp_iload_n (pc := 183) dX9_rests_183 rfl ?_
                  refine wp_iload (pc := 184) dX9_rests_184 rfl ?_
                  refine wp_if_eq (pc := 186) 193 dX9_rests_186 (by decide) (fun h186 => ?_) (fun h186 => ?_)
                  · have h186 := b2i_0 h186
                    have h161 : (rsB r (5 * w + b)) = false := h186
                    refine wp_ic (pc := 193) (x := nI 0) dX9_rests_193 ic_0 ?_
                    refine wp_iadd (pc := 194) dX9_rests_194 ?_
                    refine wp_istore_n (pc := 195) (L' := [_, _, _, _, _, _, _, _, _, _, _]) dX9_rests_195 (Nat.le_of_ble_eq_true rfl) rfl rfl ?_
                    first | (exact absurd (h161'.symm.trans h161) (by decide); done) | ((refine wp_iinc1 (pc := 196) (L' := [_, _, _, _, _, _, _, _, _, _, _]) dX9_rests_196 rfl rfl rfl ?_); (refine wp_goto (pc := 199) 48 dX9_rests_199 (by decide) ?_); (have := ih (b + 1) (some (.int (nI (waN r w b)))) (some (.int (nI (baN r w b)))) (some (.int (b2i (rsB r (5 * w + b))))) z6 (by omega) (by omega)); (rw [show 5 * w + (b + 1) = 5 * w + b + 1 from rfl] at this); (first | (rw [cnt_n h161, fst_n h161] at this; rw [nI_add]; exact this) | (rw [cnt_y h161, fst_m hc0] at this; rw [nI_add]; exact this) | (rw [cnt_y h161, fst_y h161 hc0, show (5 * w + b) / 5 = w by omega, show (5 * w + b) % 5 = b by omega] at this; rw [nI_add]; exact this)))
                  · have h186 := b2i_1 h186
                    have h161 : (rsB r (5 * w + b)) = true := h186
                    refine wp_ic (pc := 189) (x := nI 1) dX9_rests_189 ic_1 ?_
                    refine wp_goto (pc := 190) 194 dX9_rests_190 (by decide) ?_
                    refine wp_iadd (pc := 194) dX9_rests_194 ?_
                    refine wp_istore_n (pc := 195) (L' := [_, _, _, _, _, _, _, _, _, _, _]) dX9_rests_195 (Nat.le_of_ble_eq_true rfl) rfl rfl ?_
                    first | (exact absurd (h161'.symm.trans h161) (by decide); done) | ((refine wp_iinc1 (pc := 196) (L' := [_, _, _, _, _, _, _, _, _, _, _]) dX9_rests_196 rfl rfl rfl ?_); (refine wp_goto (pc := 199) 48 dX9_rests_199 (by decide) ?_); (have := ih (b + 1) (some (.int (nI (waN r w b)))) (some (.int (nI (baN r w b)))) (some (.int (b2i (rsB r (5 * w + b))))) z6 (by omega) (by omega)); (rw [show 5 * w + (b + 1) = 5 * w + b + 1 from rfl] at this); (first | (rw [cnt_n h161, fst_n h161] at this; rw [nI_add]; exact this) | (rw [cnt_y h161, fst_m hc0] at this; rw [nI_add]; exact this) | (rw [cnt_y h161, fst_y h161 hc0, show (5 * w + b) / 5 = w by omega, show (5 * w + b) % 5 = b by omega] at this; rw [nI_add]; exact this)))
          · have eba : 0 = baN r w b := by unfold baN; rw [if_pos ((nI_eq (by omega) (by omega)).mp h77)]
            refine wp_ic (pc := 80) (x := nI 0) dX9_rests_80 ic_0 ?_
            refine wp_goto (pc := 81) 90 dX9_rests_81 (by decide) ?_
            refine wp_top (nI (baN r w b)) (congrArg nI eba) ?_
            refine wp_istore (pc := 90) (L' := [_, _, _, _, _, _, _, _, _, _, _]) dX9_rests_90 (Nat.le_of_ble_eq_true rfl) rfl rfl ?_
            refine wp_iload_n (pc := 92) dX9_rests_92 rfl ?_
            refine wp_iload (pc := 93) dX9_rests_93 rfl ?_
            refine wf_callSi (pc := 95) dX9_rests_95 cl_X9_226 (cR_worthOf hr (by omega)) rfl rfl (Nat.le_of_ble_eq_true rfl) (by decide) ⟨Nat.le_refl _, Nat.le_refl _⟩ (fun r95 M95 q95 => ?_)
            rw [q95.1, q95.2]
            refine wp_iload (pc := 98) dX9_rests_98 rfl ?_
            refine wp_icmp_gt (pc := 100) 107 dX9_rests_100 (by decide) (fun h100 => ?_) (fun h100 => ?_)
            · have ef : ¬ woN r b ≤ waN r w b := fun q => absurd (nI_le q (by omega)) (Int32.not_le.mpr h100)
              refine wp_ic (pc := 107) (x := nI 0) dX9_rests_107 ic_0 ?_
              refine wp_istore (pc := 108) (L' := [_, _, _, _, _, _, _, _, _, _, _]) dX9_rests_108 (Nat.le_of_ble_eq_true rfl) rfl rfl ?_
              refine wp_ic (pc := 110) (x := nI 0) dX9_rests_110 ic_0 ?_
              refine wp_istore (pc := 111) (L' := [_, _, _, _, _, _, _, _, _, _, _]) dX9_rests_111 (Nat.le_of_ble_eq_true rfl) rfl rfl ?_
              first | refine inner r wh M5 hr hwh H F w b hw (by omega) (fun z6 => ?_) 5 0 true (by omega) (by omega) (fun _ => ⟨ef, fun j hj => absurd hj (Nat.not_lt_zero _)⟩) (fun q => by cases q) | refine inner r wh M5 hr hwh H F w b hw (by omega) (fun z6 => ?_) 5 0 false (by omega) (by omega) (fun q => by cases q) (fun _ => by cases qq : rsB r (5 * w + b) with | false => rfl | true => exact absurd ((rs_eq (by omega) hw).mp qq).1 ef)
              refine wp_iload (pc := 159) dX9_rests_159 rfl ?_
              refine wp_if_eq (pc := 161) 179 dX9_rests_161 (by decide) (fun h161 => ?_) (fun h161 => ?_)
              · have h161 := b2i_0 h161
                have h161' : (rsB r (5 * w + b)) = false := h161
                refine wp_iload (pc := 179) dX9_rests_179 rfl ?_
                refine wp_istore (pc := 181) (L' := [_, _, _, _, _, _, _, _, _, _, _]) dX9_rests_181 (Nat.le_of_ble_eq_true rfl) rfl rfl ?_
                refine wp_iload_n (pc := 183) dX9_rests_183 rfl ?_
                refine wp_iload (pc := 184) dX9_rests_184 rfl ?_
                refine wp_if_eq (pc := 186) 193 dX9_rests_186 (by decide) (fun h186 => ?_) (fun h186 => ?_)
                · have h186 := b2i_0 h186
                  have h161 : (rsB r (5 * w + b)) = false := h186
                  refine wp_ic (pc := 193) (x := nI 0) dX9_rests_193 ic_0 ?_
                  refine wp_iadd (pc := 194) dX9_rests_194 ?_
                  refine wp_istore_n (pc := 195) (L' := [_, _, _, _, _, _, _, _, _, _, _]) dX9_rests_195 (Nat.le_of_ble_eq_true rfl) rfl rfl ?_
                  first | (exact absurd (h161'.symm.trans h161) (by decide); done) | ((refine wp_iinc1 (pc := 196) (L' := [_, _, _, _, _, _, _, _, _, _, _]) dX9_rests_196 rfl rfl rfl ?_); (refine wp_goto (pc := 199) 48 dX9_rests_199 (by decide) ?_); (have := ih (b + 1) (some (.int (nI (waN r w b)))) (some (.int (nI (baN r w b)))) (some (.int (b2i (rsB r (5 * w + b))))) z6 (by omega) (by omega)); (rw [show 5 * w + (b + 1) = 5 * w + b + 1 from rfl] at this); (first | (rw [cnt_n h161, fst_n h161] at this; rw [nI_add]; exact this) | (rw [cnt_y h161, fst_m hc0] at this; rw [nI_add]; exact this) | (rw [cnt_y h161, fst_y h161 hc0, show (5 * w + b) / 5 = w by omega, show (5 * w + b) % 5 = b by omega] at this; rw [nI_add]; exact this)))
                · have h186 := b2i_1 h186
                  have h161 : (rsB r (5 * w + b)) = true := h186
                  refine wp_ic (pc := 189) (x := nI 1) dX9_rests_189 ic_1 ?_
                  refine wp_goto (pc := 190) 194 dX9_rests_190 (by decide) ?_
                  refine wp_iadd (pc := 194) dX9_rests_194 ?_
                  refine wp_istore_n (pc := 195) (L' := [_, _, _, _, _, _, _, _, _, _, _]) dX9_rests_195 (Nat.le_of_ble_eq_true rfl) rfl rfl ?_
                  first | (exact absurd (h161'.symm.trans h161) (by decide); done) | ((refine wp_iinc1 (pc := 196) (L' := [_, _, _, _, _, _, _, _, _, _, _]) dX9_rests_196 rfl rfl rfl ?_); (refine wp_goto (pc := 199) 48 dX9_rests_199 (by decide) ?_); (have := ih (b + 1) (some (.int (nI (waN r w b)))) (some (.int (nI (baN r w b)))) (some (.int (b2i (rsB r (5 * w + b))))) z6 (by omega) (by omega)); (rw [show 5 * w + (b + 1) = 5 * w + b + 1 from rfl] at this); (first | (rw [cnt_n h161, fst_n h161] at this; rw [nI_add]; exact this) | (rw [cnt_y h161, fst_m hc0] at this; rw [nI_add]; exact this) | (rw [cnt_y h161, fst_y h161 hc0, show (5 * w + b) / 5 = w by omega, show (5 * w + b) % 5 = b by omega] at this; rw [nI_add]; exact this)))
              · have h161 := b2i_1 h161
                have h161' : (rsB r (5 * w + b)) = true := h161
                refine wp_iload_n (pc := 164) dX9_rests_164 rfl ?_
                refine wp_if_ne (pc := 165) 179 dX9_rests_165 (by decide) (fun h165 => ?_) (fun h165 => ?_)
                · have hc0 : ¬ cntC (rsB r) (5 * w + b) = 0 := fun q => h165 (by rw [q]; rfl)
                  refine wp_iload (pc := 179) dX9_rests_179 rfl ?_
                  refine wp_istore (pc := 181) (L' := [_, _, _, _, _, _, _, _, _, _, _]) dX9_rests_181 (Nat.le_of_ble_eq_true rfl) rfl rfl ?_
                  refine wp_iload_n (pc := 183) dX9_rests_183 rfl ?_
                  refine wp_iload (pc := 184) dX9_rests_184 rfl ?_
                  refine wp_if_eq (pc := 186) 193 dX9_rests_186 (by decide) (fun h186 => ?_) (fun h186 => ?_)
                  · have h186 := b2i_0 h186
                    have h161 : (rsB r (5 * w + b)) = false := h186
                    refine wp_ic (pc := 193) (x := nI 0) dX9_rests_193 ic_0 ?_
                    refine wp_iadd (pc := 194) dX9_rests_194 ?_
                    refine wp_istore_n (pc := 195) (L' := [_, _, _, _, _, _, _, _, _, _, _]) dX9_rests_195 (Nat.le_of_ble_eq_true rfl) rfl rfl ?_
                    first | (exact absurd (h161'.symm.trans h161) (by decide); done) | ((refine wp_iinc1 (pc := 196) (L' := [_, _, _, _, _, _, _, _, _, _, _]) dX9_rests_196 rfl rfl rfl ?_); (refine wp_goto (pc := 199) 48 dX9_rests_199 (by decide) ?_); (have := ih (b + 1) (some (.int (nI (waN r w b)))) (some (.int (nI (baN r w b)))) (some (.int (b2i (rsB r (5 * w + b))))) z6 (by omega) (by omega)); (rw [show 5 * w + (b + 1) = 5 * w + b + 1 from rfl] at this); (first | (rw [cnt_n h161, fst_n h161] at this; rw [nI_add]; exact this) | (rw [cnt_y h161, fst_m hc0] at this; rw [nI_add]; exact this) | (rw [cnt_y h161, fst_y h161 hc0, show (5 * w + b) / 5 = w by omega, show (5 * w + b) % 5 = b by omega] at this; rw [nI_add]; exact this)))
                  · have h186 := b2i_1 h186
                    have h161 : (rsB r (5 * w + b)) = true := h186
                    refine wp_ic (pc := 189) (x := nI 1) dX9_rests_189 ic_1 ?_
                    refine wp_goto (pc := 190) 194 dX9_rests_190 (by decide) ?_
                    refine wp_iadd (pc := 194) dX9_rests_194 ?_
                    refine wp_istore_n (pc := 195) (L' := [_, _, _, _, _, _, _, _, _, _, _]) dX9_rests_195 (Nat.le_of_ble_eq_true rfl) rfl rfl ?_
                    first | (exact absurd (h161'.symm.trans h161) (by decide); done) | ((refine wp_iinc1 (pc := 196) (L' := [_, _, _, _, _, _, _, _, _, _, _]) dX9_rests_196 rfl rfl rfl ?_); (refine wp_goto (pc := 199) 48 dX9_rests_199 (by decide) ?_); (have := ih (b + 1) (some (.int (nI (waN r w b)))) (some (.int (nI (baN r w b)))) (some (.int (b2i (rsB r (5 * w + b))))) z6 (by omega) (by omega)); (rw [show 5 * w + (b + 1) = 5 * w + b + 1 from rfl] at this); (first | (rw [cnt_n h161, fst_n h161] at this; rw [nI_add]; exact this) | (rw [cnt_y h161, fst_m hc0] at this; rw [nI_add]; exact this) | (rw [cnt_y h161, fst_y h161 hc0, show (5 * w + b) / 5 = w by omega, show (5 * w + b) % 5 = b by omega] at this; rw [nI_add]; exact this)))
                · have hc0 : cntC (rsB r) (5 * w + b) = 0 := (nI_eq (by omega) (by omega)).mp h165
                  refine wp_bipush (pc := 168) (x := nI 10) dX9_rests_168 bp_10 ?_
                  refine wp_iload (pc := 170) dX9_rests_170 rfl ?_
                  refine wp_imul (pc := 172) dX9_rests_172 ?_
                  refine wp_iload (pc := 173) dX9_rests_173 rfl ?_
                  refine wp_iadd (pc := 175) dX9_rests_175 ?_
                  refine wp_top (nI (10 * w + b)) (by rw [pk_mul, nI_add]) ?_
                  refine wp_goto (pc := 176) 181 dX9_rests_176 (by decide) ?_
                  refine wp_istore (pc := 181) (L' := [_, _, _, _, _, _, _, _, _, _, _]) dX9_rests_181 (Nat.le_of_ble_eq_true rfl) rfl rfl ?_
                  refine wp_iload_n (pc := 183) dX9_rests_183 rfl ?_
                  refine wp_iload (pc := 184) dX9_rests_184 rfl ?_
                  refine wp_if_eq (pc := 186) 193 dX9_rests_186 (by decide) (fun h186 => ?_) (fun h186 => ?_)
                  · have h186 := b2i_0 h186
                    have h161 : (rsB r (5 * w + b)) = false := h186
                    refine wp_ic (pc := 193) (x := nI 0) dX9_rests_193 ic_0 ?_
                    refine wp_iadd (pc := 194) dX9_rests_194 ?_
                    refine wp_istore_n (pc := 195) (L' := [_, _, _, _, _, _, _, _, _, _, _]) dX9_rests_195 (Nat.le_of_ble_eq_true rfl) rfl rfl ?_
                    first | (exact absurd (h161'.symm.trans h161) (by decide); done) | ((refine wp_iinc1 (pc := 196) (L' := [_, _, _, _, _, _, _, _, _, _, _]) dX9_rests_196 rfl rfl rfl ?_); (refine wp_goto (pc := 199) 48 dX9_rests_199 (by decide) ?_); (have := ih (b + 1) (some (.int (nI (waN r w b)))) (some (.int (nI (baN r w b)))) (some (.int (b2i (rsB r (5 * w + b))))) z6 (by omega) (by omega)); (rw [show 5 * w + (b + 1) = 5 * w + b + 1 from rfl] at this); (first | (rw [cnt_n h161, fst_n h161] at this; rw [nI_add]; exact this) | (rw [cnt_y h161, fst_m hc0] at this; rw [nI_add]; exact this) | (rw [cnt_y h161, fst_y h161 hc0, show (5 * w + b) / 5 = w by omega, show (5 * w + b) % 5 = b by omega] at this; rw [nI_add]; exact this)))
                  · have h186 := b2i_1 h186
                    have h161 : (rsB r (5 * w + b)) = true := h186
                    refine wp_ic (pc := 189) (x := nI 1) dX9_rests_189 ic_1 ?_
                    refine wp_goto (pc := 190) 194 dX9_rests_190 (by decide) ?_
                    refine wp_iadd (pc := 194) dX9_rests_194 ?_
                    refine wp_istore_n (pc := 195) (L' := [_, _, _, _, _, _, _, _, _, _, _]) dX9_rests_195 (Nat.le_of_ble_eq_true rfl) rfl rfl ?_
                    first | (exact absurd (h161'.symm.trans h161) (by decide); done) | ((refine wp_iinc1 (pc := 196) (L' := [_, _, _, _, _, _, _, _, _, _, _]) dX9_rests_196 rfl rfl rfl ?_); (refine wp_goto (pc := 199) 48 dX9_rests_199 (by decide) ?_); (have := ih (b + 1) (some (.int (nI (waN r w b)))) (some (.int (nI (baN r w b)))) (some (.int (b2i (rsB r (5 * w + b))))) z6 (by omega) (by omega)); (rw [show 5 * w + (b + 1) = 5 * w + b + 1 from rfl] at this); (first | (rw [cnt_n h161, fst_n h161] at this; rw [nI_add]; exact this) | (rw [cnt_y h161, fst_m hc0] at this; rw [nI_add]; exact this) | (rw [cnt_y h161, fst_y h161 hc0, show (5 * w + b) / 5 = w by omega, show (5 * w + b) % 5 = b by omega] at this; rw [nI_add]; exact this)))
            · have ef : woN r b ≤ waN r w b := by rcases Nat.lt_or_ge (waN r w b) (woN r b) with q | q; exact absurd (nI_lt q (by omega)) h100; exact q
              refine wp_ic (pc := 103) (x := nI 1) dX9_rests_103 ic_1 ?_
              refine wp_goto (pc := 104) 108 dX9_rests_104 (by decide) ?_
              refine wp_istore (pc := 108) (L' := [_, _, _, _, _, _, _, _, _, _, _]) dX9_rests_108 (Nat.le_of_ble_eq_true rfl) rfl rfl ?_
              refine wp_ic (pc := 110) (x := nI 0) dX9_rests_110 ic_0 ?_
              refine wp_istore (pc := 111) (L' := [_, _, _, _, _, _, _, _, _, _, _]) dX9_rests_111 (Nat.le_of_ble_eq_true rfl) rfl rfl ?_
              first | refine inner r wh M5 hr hwh H F w b hw (by omega) (fun z6 => ?_) 5 0 true (by omega) (by omega) (fun _ => ⟨ef, fun j hj => absurd hj (Nat.not_lt_zero _)⟩) (fun q => by cases q) | refine inner r wh M5 hr hwh H F w b hw (by omega) (fun z6 => ?_) 5 0 false (by omega) (by omega) (fun q => by cases q) (fun _ => by cases qq : rsB r (5 * w + b) with | false => rfl | true => exact absurd ((rs_eq (by omega) hw).mp qq).1 ef)
              refine wp_iload (pc := 159) dX9_rests_159 rfl ?_
              refine wp_if_eq (pc := 161) 179 dX9_rests_161 (by decide) (fun h161 => ?_) (fun h161 => ?_)
              · have h161 := b2i_0 h161
                have h161' : (rsB r (5 * w + b)) = false := h161
                refine wp_iload (pc := 179) dX9_rests_179 rfl ?_
                refine wp_istore (pc := 181) (L' := [_, _, _, _, _, _, _, _, _, _, _]) dX9_rests_181 (Nat.le_of_ble_eq_true rfl) rfl rfl ?_
                refine wp_iload_n (pc := 183) dX9_rests_183 rfl ?_
                refine wp_iload (pc := 184) dX9_rests_184 rfl ?_
                refine wp_if_eq (pc := 186) 193 dX9_rests_186 (by decide) (fun h186 => ?_) (fun h186 => ?_)
                · have h186 := b2i_0 h186
                  have h161 : (rsB r (5 * w + b)) = false := h186
                  refine wp_ic (pc := 193) (x := nI 0) dX9_rests_193 ic_0 ?_
                  refine wp_iadd (pc := 194) dX9_rests_194 ?_
                  refine wp_istore_n (pc := 195) (L' := [_, _, _, _, _, _, _, _, _, _, _]) dX9_rests_195 (Nat.le_of_ble_eq_true rfl) rfl rfl ?_
                  first | (exact absurd (h161'.symm.trans h161) (by decide); done) | ((refine wp_iinc1 (pc := 196) (L' := [_, _, _, _, _, _, _, _, _, _, _]) dX9_rests_196 rfl rfl rfl ?_); (refine wp_goto (pc := 199) 48 dX9_rests_199 (by decide) ?_); (have := ih (b + 1) (some (.int (nI (waN r w b)))) (some (.int (nI (baN r w b)))) (some (.int (b2i (rsB r (5 * w + b))))) z6 (by omega) (by omega)); (rw [show 5 * w + (b + 1) = 5 * w + b + 1 from rfl] at this); (first | (rw [cnt_n h161, fst_n h161] at this; rw [nI_add]; exact this) | (rw [cnt_y h161, fst_m hc0] at this; rw [nI_add]; exact this) | (rw [cnt_y h161, fst_y h161 hc0, show (5 * w + b) / 5 = w by omega, show (5 * w + b) % 5 = b by omega] at this; rw [nI_add]; exact this)))
                · have h186 := b2i_1 h186
                  have h161 : (rsB r (5 * w + b)) = true := h186
                  refine wp_ic (pc := 189) (x := nI 1) dX9_rests_189 ic_1 ?_
                  refine wp_goto (pc := 190) 194 dX9_rests_190 (by decide) ?_
                  refine wp_iadd (pc := 194) dX9_rests_194 ?_
                  refine wp_istore_n (pc := 195) (L' := [_, _, _, _, _, _, _, _, _, _, _]) dX9_rests_195 (Nat.le_of_ble_eq_true rfl) rfl rfl ?_
                  first | (exact absurd (h161'.symm.trans h161) (by decide); done) | ((refine wp_iinc1 (pc := 196) (L' := [_, _, _, _, _, _, _, _, _, _, _]) dX9_rests_196 rfl rfl rfl ?_); (refine wp_goto (pc := 199) 48 dX9_rests_199 (by decide) ?_); (have := ih (b + 1) (some (.int (nI (waN r w b)))) (some (.int (nI (baN r w b)))) (some (.int (b2i (rsB r (5 * w + b))))) z6 (by omega) (by omega)); (rw [show 5 * w + (b + 1) = 5 * w + b + 1 from rfl] at this); (first | (rw [cnt_n h161, fst_n h161] at this; rw [nI_add]; exact this) | (rw [cnt_y h161, fst_m hc0] at this; rw [nI_add]; exact this) | (rw [cnt_y h161, fst_y h161 hc0, show (5 * w + b) / 5 = w by omega, show (5 * w + b) % 5 = b by omega] at this; rw [nI_add]; exact this)))
              · have h161 := b2i_1 h161
                have h161' : (rsB r (5 * w + b)) = true := h161
                refine wp_iload_n (pc := 164) dX9_rests_164 rfl ?_
                refine wp_if_ne (pc := 165) 179 dX9_rests_165 (by decide) (fun h165 => ?_) (fun h165 => ?_)
                · have hc0 : ¬ cntC (rsB r) (5 * w + b) = 0 := fun q => h165 (by rw [q]; rfl)
                  refine wp_iload (pc := 179) dX9_rests_179 rfl ?_
                  refine wp_istore (pc := 181) (L' := [_, _, _, _, _, _, _, _, _, _, _]) dX9_rests_181 (Nat.le_of_ble_eq_true rfl) rfl rfl ?_
                  refine wp_iload_n (pc := 183) dX9_rests_183 rfl ?_
                  refine wp_iload (pc := 184) dX9_rests_184 rfl ?_
                  refine wp_if_eq (pc := 186) 193 dX9_rests_186 (by decide) (fun h186 => ?_) (fun h186 => ?_)
                  · have h186 := b2i_0 h186
                    have h161 : (rsB r (5 * w + b)) = false := h186
                    refine wp_ic (pc := 193) (x := nI 0) dX9_rests_193 ic_0 ?_
                    refine wp_iadd (pc := 194) dX9_rests_194 ?_
                    refine wp_istore_n (pc := 195) (L' := [_, _, _, _, _, _, _, _, _, _, _]) dX9_rests_195 (Nat.le_of_ble_eq_true rfl) rfl rfl ?_
                    first | (exact absurd (h161'.symm.trans h161) (by decide); done) | ((refine wp_iinc1 (pc := 196) (L' := [_, _, _, _, _, _, _, _, _, _, _]) dX9_rests_196 rfl rfl rfl ?_); (refine wp_goto (pc := 199) 48 dX9_rests_199 (by decide) ?_); (have := ih (b + 1) (some (.int (nI (waN r w b)))) (some (.int (nI (baN r w b)))) (some (.int (b2i (rsB r (5 * w + b))))) z6 (by omega) (by omega)); (rw [show 5 * w + (b + 1) = 5 * w + b + 1 from rfl] at this); (first | (rw [cnt_n h161, fst_n h161] at this; rw [nI_add]; exact this) | (rw [cnt_y h161, fst_m hc0] at this; rw [nI_add]; exact this) | (rw [cnt_y h161, fst_y h161 hc0, show (5 * w + b) / 5 = w by omega, show (5 * w + b) % 5 = b by omega] at this; rw [nI_add]; exact this)))
                  · have h186 := b2i_1 h186
                    have h161 : (rsB r (5 * w + b)) = true := h186
                    refine wp_ic (pc := 189) (x := nI 1) dX9_rests_189 ic_1 ?_
                    refine wp_goto (pc := 190) 194 dX9_rests_190 (by decide) ?_
                    refine wp_iadd (pc := 194) dX9_rests_194 ?_
                    refine wp_istore_n (pc := 195) (L' := [_, _, _, _, _, _, _, _, _, _, _]) dX9_rests_195 (Nat.le_of_ble_eq_true rfl) rfl rfl ?_
                    first | (exact absurd (h161'.symm.trans h161) (by decide); done) | ((refine wp_iinc1 (pc := 196) (L' := [_, _, _, _, _, _, _, _, _, _, _]) dX9_rests_196 rfl rfl rfl ?_); (refine wp_goto (pc := 199) 48 dX9_rests_199 (by decide) ?_); (have := ih (b + 1) (some (.int (nI (waN r w b)))) (some (.int (nI (baN r w b)))) (some (.int (b2i (rsB r (5 * w + b))))) z6 (by omega) (by omega)); (rw [show 5 * w + (b + 1) = 5 * w + b + 1 from rfl] at this); (first | (rw [cnt_n h161, fst_n h161] at this; rw [nI_add]; exact this) | (rw [cnt_y h161, fst_m hc0] at this; rw [nI_add]; exact this) | (rw [cnt_y h161, fst_y h161 hc0, show (5 * w + b) / 5 = w by omega, show (5 * w + b) % 5 = b by omega] at this; rw [nI_add]; exact this)))
                · have hc0 : cntC (rsB r) (5 * w + b) = 0 := (nI_eq (by omega) (by omega)).mp h165
                  refine wp_bipush (pc := 168) (x := nI 10) dX9_rests_168 bp_10 ?_
                  refine wp_iload (pc := 170) dX9_rests_170 rfl ?_
                  refine wp_imul (pc := 172) dX9_rests_172 ?_
                  refine wp_iload (pc := 173) dX9_rests_173 rfl ?_
                  refine wp_iadd (pc := 175) dX9_rests_175 ?_
                  refine wp_top (nI (10 * w + b)) (by rw [pk_mul, nI_add]) ?_
                  refine wp_goto (pc := 176) 181 dX9_rests_176 (by decide) ?_
                  refine wp_istore (pc := 181) (L' := [_, _, _, _, _, _, _, _, _, _, _]) dX9_rests_181 (Nat.le_of_ble_eq_true rfl) rfl rfl ?_
                  refine wp_iload_n (pc := 183) dX9_rests_183 rfl ?_
                  refine wp_iload (pc := 184) dX9_rests_184 rfl ?_
                  refine wp_if_eq (pc := 186) 193 dX9_rests_186 (by decide) (fun h186 => ?_) (fun h186 => ?_)
                  · have h186 := b2i_0 h186
                    have h161 : (rsB r (5 * w + b)) = false := h186
                    refine wp_ic (pc := 193) (x := nI 0) dX9_rests_193 ic_0 ?_
                    refine wp_iadd (pc := 194) dX9_rests_194 ?_
                    refine wp_istore_n (pc := 195) (L' := [_, _, _, _, _, _, _, _, _, _, _]) dX9_rests_195 (Nat.le_of_ble_eq_true rfl) rfl rfl ?_
                    first | (exact absurd (h161'.symm.trans h161) (by decide); done) | ((refine wp_iinc1 (pc := 196) (L' := [_, _, _, _, _, _, _, _, _, _, _]) dX9_rests_196 rfl rfl rfl ?_); (refine wp_goto (pc := 199) 48 dX9_rests_199 (by decide) ?_); (have := ih (b + 1) (some (.int (nI (waN r w b)))) (some (.int (nI (baN r w b)))) (some (.int (b2i (rsB r (5 * w + b))))) z6 (by omega) (by omega)); (rw [show 5 * w + (b + 1) = 5 * w + b + 1 from rfl] at this); (first | (rw [cnt_n h161, fst_n h161] at this; rw [nI_add]; exact this) | (rw [cnt_y h161, fst_m hc0] at this; rw [nI_add]; exact this) | (rw [cnt_y h161, fst_y h161 hc0, show (5 * w + b) / 5 = w by omega, show (5 * w + b) % 5 = b by omega] at this; rw [nI_add]; exact this)))
                  · have h186 := b2i_1 h186
                    have h161 : (rsB r (5 * w + b)) = true := h186
                    refine wp_ic (pc := 189) (x := nI 1) dX9_rests_189 ic_1 ?_
                    refine wp_goto (pc := 190) 194 dX9_rests_190 (by decide) ?_
                    refine wp_iadd (pc := 194) dX9_rests_194 ?_
                    refine wp_istore_n (pc := 195) (L' := [_, _, _, _, _, _, _, _, _, _, _]) dX9_rests_195 (Nat.le_of_ble_eq_true rfl) rfl rfl ?_
                    first | (exact absurd (h161'.symm.trans h161) (by decide); done) | ((refine wp_iinc1 (pc := 196) (L' := [_, _, _, _, _, _, _, _, _, _, _]) dX9_rests_196 rfl rfl rfl ?_); (refine wp_goto (pc := 199) 48 dX9_rests_199 (by decide) ?_); (have := ih (b + 1) (some (.int (nI (waN r w b)))) (some (.int (nI (baN r w b)))) (some (.int (b2i (rsB r (5 * w + b))))) z6 (by omega) (by omega)); (rw [show 5 * w + (b + 1) = 5 * w + b + 1 from rfl] at this); (first | (rw [cnt_n h161, fst_n h161] at this; rw [nI_add]; exact this) | (rw [cnt_y h161, fst_m hc0] at this; rw [nI_add]; exact this) | (rw [cnt_y h161, fst_y h161 hc0, show (5 * w + b) / 5 = w by omega, show (5 * w + b) % 5 = b by omega] at this; rw [nI_add]; exact this)))
        · have ewa : woN r b = waN r w b := by unfold waN; rw [if_pos ((nI_eq (by omega) (by omega)).mp h58)]
          refine wp_iload_n (pc := 61) dX9_rests_61 rfl ?_
          refine wp_iload (pc := 62) dX9_rests_62 rfl ?_
          refine wf_callSi (pc := 64) dX9_rests_64 cl_X9_226 (cR_worthOf hr (by omega)) rfl rfl (Nat.le_of_ble_eq_true rfl) (by decide) ⟨Nat.le_refl _, Nat.le_refl _⟩ (fun r64 M64 q64 => ?_)
          rw [q64.1, q64.2]
          refine wp_goto (pc := 67) 71 dX9_rests_67 (by decide) ?_
          refine wp_top (nI (waN r w b)) (congrArg nI ewa) ?_
          refine wp_istore (pc := 71) (L' := [_, _, _, _, _, _, _, _, _, _, _]) dX9_rests_71 (Nat.le_of_ble_eq_true rfl) rfl rfl ?_
          refine wp_iload (pc := 73) dX9_rests_73 rfl ?_
          refine wp_iload (pc := 75) dX9_rests_75 rfl ?_
          refine wp_icmp_ne (pc := 77) 84 dX9_rests_77 (by decide) (fun h77 => ?_) (fun h77 => ?_)
          · have eba : woN r b = baN r w b := by unfold baN; rw [if_neg (fun q => h77 (by rw [q]))]
            refine wp_iload_n (pc := 84) dX9_rests_84 rfl ?_
            refine wp_iload (pc := 85) dX9_rests_85 rfl ?_
            refine wf_callSi (pc := 87) dX9_rests_87 cl_X9_226 (cR_worthOf hr (by omega)) rfl rfl (Nat.le_of_ble_eq_true rfl) (by decide) ⟨Nat.le_refl _, Nat.le_refl _⟩ (fun r87 M87 q87 => ?_)
            rw [q87.1, q87.2]
            refine wp_top (nI (baN r w b)) (congrArg nI eba) ?_
            refine wp_istore (pc := 90) (L' := [_, _, _, _, _, _, _, _, _, _, _]) dX9_rests_90 (Nat.le_of_ble_eq_true rfl) rfl rfl ?_
            refine wp_iload_n (pc := 92) dX9_rests_92 rfl ?_
            refine wp_iload (pc := 93) dX9_rests_93 rfl ?_
            refine wf_callSi (pc := 95) dX9_rests_95 cl_X9_226 (cR_worthOf hr (by omega)) rfl rfl (Nat.le_of_ble_eq_true rfl) (by decide) ⟨Nat.le_refl _, Nat.le_refl _⟩ (fun r95 M95 q95 => ?_)
            rw [q95.1, q95.2]
            refine wp_iload (pc := 98) dX9_rests_98 rfl ?_
            refine wp_icmp_gt (pc := 100) 107 dX9_rests_100 (by decide) (fun h100 => ?_) (fun h100 => ?_)
            · have ef : ¬ woN r b ≤ waN r w b := fun q => absurd (nI_le q (by omega)) (Int32.not_le.mpr h100)
              refine wp_ic (pc := 107) (x := nI 0) dX9_rests_107 ic_0 ?_
              refine wp_istore (pc := 108) (L' := [_, _, _, _, _, _, _, _, _, _, _]) dX9_rests_108 (Nat.le_of_ble_eq_true rfl) rfl rfl ?_
              refine wp_ic (pc := 110) (x := nI 0) dX9_rests_110 ic_0 ?_
              refine wp_istore (pc := 111) (L' := [_, _, _, _, _, _, _, _, _, _, _]) dX9_rests_111 (Nat.le_of_ble_eq_true rfl) rfl rfl ?_
              first | refine inner r wh M5 hr hwh H F w b hw (by omega) (fun z6 => ?_) 5 0 true (by omega) (by omega) (fun _ => ⟨ef, fun j hj => absurd hj (Nat.not_lt_zero _)⟩) (fun q => by cases q) | refine inner r wh M5 hr hwh H F w b hw (by omega) (fun z6 => ?_) 5 0 false (by omega) (by omega) (fun q => by cases q) (fun _ => by cases qq : rsB r (5 * w + b) with | false => rfl | true => exact absurd ((rs_eq (by omega) hw).mp qq).1 ef)
              refine wp_iload (pc := 159) dX9_rests_159 rfl ?_
              refine wp_if_eq (pc := 161) 179 dX9_rests_161 (by decide) (fun h161 => ?_) (fun h161 => ?_)
              · have h161 := b2i_0 h161
                have h161' : (rsB r (5 * w + b)) = false := h161
                refine wp_iload (pc := 179) dX9_rests_179 rfl ?_
                refine wp_istore (pc := 181) (L' := [_, _, _, _, _, _, _, _, _, _, _]) dX9_rests_181 (Nat.le_of_ble_eq_true rfl) rfl rfl ?_
                refine wp_iload_n (pc := 183) dX9_rests_183 rfl ?_
                refine wp_iload (pc := 184) dX9_rests_184 rfl ?_
                refine wp_if_eq (pc := 186) 193 dX9_rests_186 (by decide) (fun h186 => ?_) (fun h186 => ?_)
                · have h186 := b2i_0 h186
                  have h161 : (rsB r (5 * w + b)) = false := h186
                  refine wp_ic (pc := 193) (x := nI 0) dX9_rests_193 ic_0 ?_
                  refine wp_iadd (pc := 194) dX9_rests_194 ?_
                  refine wp_istore_n (pc := 195) (L' := [_, _, _, _, _, _, _, _, _, _, _]) dX9_rests_195 (Nat.le_of_ble_eq_true rfl) rfl rfl ?_
                  first | (exact absurd (h161'.symm.trans h161) (by decide); done) | ((refine wp_iinc1 (pc := 196) (L' := [_, _, _, _, _, _, _, _, _, _, _]) dX9_rests_196 rfl rfl rfl ?_); (refine wp_goto (pc := 199) 48 dX9_rests_199 (by decide) ?_); (have := ih (b + 1) (some (.int (nI (waN r w b)))) (some (.int (nI (baN r w b)))) (some (.int (b2i (rsB r (5 * w + b))))) z6 (by omega) (by omega)); (rw [show 5 * w + (b + 1) = 5 * w + b + 1 from rfl] at this); (first | (rw [cnt_n h161, fst_n h161] at this; rw [nI_add]; exact this) | (rw [cnt_y h161, fst_m hc0] at this; rw [nI_add]; exact this) | (rw [cnt_y h161, fst_y h161 hc0, show (5 * w + b) / 5 = w by omega, show (5 * w + b) % 5 = b by omega] at this; rw [nI_add]; exact this)))
                · have h186 := b2i_1 h186
                  have h161 : (rsB r (5 * w + b)) = true := h186
                  refine wp_ic (pc := 189) (x := nI 1) dX9_rests_189 ic_1 ?_
                  refine wp_goto (pc := 190) 194 dX9_rests_190 (by decide) ?_
                  refine wp_iadd (pc := 194) dX9_rests_194 ?_
                  refine wp_istore_n (pc := 195) (L' := [_, _, _, _, _, _, _, _, _, _, _]) dX9_rests_195 (Nat.le_of_ble_eq_true rfl) rfl rfl ?_
                  first | (exact absurd (h161'.symm.trans h161) (by decide); done) | ((refine wp_iinc1 (pc := 196) (L' := [_, _, _, _, _, _, _, _, _, _, _]) dX9_rests_196 rfl rfl rfl ?_); (refine wp_goto (pc := 199) 48 dX9_rests_199 (by decide) ?_); (have := ih (b + 1) (some (.int (nI (waN r w b)))) (some (.int (nI (baN r w b)))) (some (.int (b2i (rsB r (5 * w + b))))) z6 (by omega) (by omega)); (rw [show 5 * w + (b + 1) = 5 * w + b + 1 from rfl] at this); (first | (rw [cnt_n h161, fst_n h161] at this; rw [nI_add]; exact this) | (rw [cnt_y h161, fst_m hc0] at this; rw [nI_add]; exact this) | (rw [cnt_y h161, fst_y h161 hc0, show (5 * w + b) / 5 = w by omega, show (5 * w + b) % 5 = b by omega] at this; rw [nI_add]; exact this)))
              · have h161 := b2i_1 h161
                have h161' : (rsB r (5 * w + b)) = true := h161
                refine wp_iload_n (pc := 164) dX9_rests_164 rfl ?_
                refine wp_if_ne (pc := 165) 179 dX9_rests_165 (by decide) (fun h165 => ?_) (fun h165 => ?_)
                · have hc0 : ¬ cntC (rsB r) (5 * w + b) = 0 := fun q => h165 (by rw [q]; rfl)
                  refine wp_iload (pc := 179) dX9_rests_179 rfl ?_
                  refine wp_istore (pc := 181) (L' := [_, _, _, _, _, _, _, _, _, _, _]) dX9_rests_181 (Nat.le_of_ble_eq_true rfl) rfl rfl ?_
                  refine wp_iload_n (pc := 183) dX9_rests_183 rfl ?_
                  refine wp_iload (pc := 184) dX9_rests_184 rfl ?_
                  refine wp_if_eq (pc := 186) 193 dX9_rests_186 (by decide) (fun h186 => ?_) (fun h186 => ?_)
                  · have h186 := b2i_0 h186
                    have h161 : (rsB r (5 * w + b)) = false := h186
                    refine wp_ic (pc := 193) (x := nI 0) dX9_rests_193 ic_0 ?_
                    refine wp_iadd (pc := 194) dX9_rests_194 ?_
                    refine wp_istore_n (pc := 195) (L' := [_, _, _, _, _, _, _, _, _, _, _]) dX9_rests_195 (Nat.le_of_ble_eq_true rfl) rfl rfl ?_
                    first | (exact absurd (h161'.symm.trans h161) (by decide); done) | ((refine wp_iinc1 (pc := 196) (L' := [_, _, _, _, _, _, _, _, _, _, _]) dX9_rests_196 rfl rfl rfl ?_); (refine wp_goto (pc := 199) 48 dX9_rests_199 (by decide) ?_); (have := ih (b + 1) (some (.int (nI (waN r w b)))) (some (.int (nI (baN r w b)))) (some (.int (b2i (rsB r (5 * w + b))))) z6 (by omega) (by omega)); (rw [show 5 * w + (b + 1) = 5 * w + b + 1 from rfl] at this); (first | (rw [cnt_n h161, fst_n h161] at this; rw [nI_add]; exact this) | (rw [cnt_y h161, fst_m hc0] at this; rw [nI_add]; exact this) | (rw [cnt_y h161, fst_y h161 hc0, show (5 * w + b) / 5 = w by omega, show (5 * w + b) % 5 = b by omega] at this; rw [nI_add]; exact this)))
                  · have h186 := b2i_1 h186
                    have h161 : (rsB r (5 * w + b)) = true := h186
                    refine wp_ic (pc := 189) (x := nI 1) dX9_rests_189 ic_1 ?_
                    refine wp_goto (pc := 190) 194 dX9_rests_190 (by decide) ?_
                    refine wp_iadd (pc := 194) dX9_rests_194 ?_
                    refine wp_istore_n (pc := 195) (L' := [_, _, _, _, _, _, _, _, _, _, _]) dX9_rests_195 (Nat.le_of_ble_eq_true rfl) rfl rfl ?_
                    first | (exact absurd (h161'.symm.trans h161) (by decide); done) | ((refine wp_iinc1 (pc := 196) (L' := [_, _, _, _, _, _, _, _, _, _, _]) dX9_rests_196 rfl rfl rfl ?_); (refine wp_goto (pc := 199) 48 dX9_rests_199 (by decide) ?_); (have := ih (b + 1) (some (.int (nI (waN r w b)))) (some (.int (nI (baN r w b)))) (some (.int (b2i (rsB r (5 * w + b))))) z6 (by omega) (by omega)); (rw [show 5 * w + (b + 1) = 5 * w + b + 1 from rfl] at this); (first | (rw [cnt_n h161, fst_n h161] at this; rw [nI_add]; exact this) | (rw [cnt_y h161, fst_m hc0] at this; rw [nI_add]; exact this) | (rw [cnt_y h161, fst_y h161 hc0, show (5 * w + b) / 5 = w by omega, show (5 * w + b) % 5 = b by omega] at this; rw [nI_add]; exact this)))
                · have hc0 : cntC (rsB r) (5 * w + b) = 0 := (nI_eq (by omega) (by omega)).mp h165
                  refine wp_bipush (pc := 168) (x := nI 10) dX9_rests_168 bp_10 ?_
                  refine wp_iload (pc := 170) dX9_rests_170 rfl ?_
                  refine wp_imul (pc := 172) dX9_rests_172 ?_
                  refine wp_iload (pc := 173) dX9_rests_173 rfl ?_
                  refine wp_iadd (pc := 175) dX9_rests_175 ?_
                  refine wp_top (nI (10 * w + b)) (by rw [pk_mul, nI_add]) ?_
                  refine wp_goto (pc := 176) 181 dX9_rests_176 (by decide) ?_
                  refine wp_istore (pc := 181) (L' := [_, _, _, _, _, _, _, _, _, _, _]) dX9_rests_181 (Nat.le_of_ble_eq_true rfl) rfl rfl ?_
                  refine wp_iload_n (pc := 183) dX9_rests_183 rfl ?_
                  refine wp_iload (pc := 184) dX9_rests_184 rfl ?_
                  refine wp_if_eq (pc := 186) 193 dX9_rests_186 (by decide) (fun h186 => ?_) (fun h186 => ?_)
                  · have h186 := b2i_0 h186
                    have h161 : (rsB r (5 * w + b)) = false := h186
                    refine wp_ic (pc := 193) (x := nI 0) dX9_rests_193 ic_0 ?_
                    refine wp_iadd (pc := 194) dX9_rests_194 ?_
                    refine wp_istore_n (pc := 195) (L' := [_, _, _, _, _, _, _, _, _, _, _]) dX9_rests_195 (Nat.le_of_ble_eq_true rfl) rfl rfl ?_
                    first | (exact absurd (h161'.symm.trans h161) (by decide); done) | ((refine wp_iinc1 (pc := 196) (L' := [_, _, _, _, _, _, _, _, _, _, _]) dX9_rests_196 rfl rfl rfl ?_); (refine wp_goto (pc := 199) 48 dX9_rests_199 (by decide) ?_); (have := ih (b + 1) (some (.int (nI (waN r w b)))) (some (.int (nI (baN r w b)))) (some (.int (b2i (rsB r (5 * w + b))))) z6 (by omega) (by omega)); (rw [show 5 * w + (b + 1) = 5 * w + b + 1 from rfl] at this); (first | (rw [cnt_n h161, fst_n h161] at this; rw [nI_add]; exact this) | (rw [cnt_y h161, fst_m hc0] at this; rw [nI_add]; exact this) | (rw [cnt_y h161, fst_y h161 hc0, show (5 * w + b) / 5 = w by omega, show (5 * w + b) % 5 = b by omega] at this; rw [nI_add]; exact this)))
                  · have h186 := b2i_1 h186
                    have h161 : (rsB r (5 * w + b)) = true := h186
                    refine wp_ic (pc := 189) (x := nI 1) dX9_rests_189 ic_1 ?_
                    refine wp_goto (pc := 190) 194 dX9_rests_190 (by decide) ?_
                    refine wp_iadd (pc := 194) dX9_rests_194 ?_
                    refine wp_istore_n (pc := 195) (L' := [_, _, _, _, _, _, _, _, _, _, _]) dX9_rests_195 (Nat.le_of_ble_eq_true rfl) rfl rfl ?_
                    first | (exact absurd (h161'.symm.trans h161) (by decide); done) | ((refine wp_iinc1 (pc := 196) (L' := [_, _, _, _, _, _, _, _, _, _, _]) dX9_rests_196 rfl rfl rfl ?_); (refine wp_goto (pc := 199) 48 dX9_rests_199 (by decide) ?_); (have := ih (b + 1) (some (.int (nI (waN r w b)))) (some (.int (nI (baN r w b)))) (some (.int (b2i (rsB r (5 * w + b))))) z6 (by omega) (by omega)); (rw [show 5 * w + (b + 1) = 5 * w + b + 1 from rfl] at this); (first | (rw [cnt_n h161, fst_n h161] at this; rw [nI_add]; exact this) | (rw [cnt_y h161, fst_m hc0] at this; rw [nI_add]; exact this) | (rw [cnt_y h161, fst_y h161 hc0, show (5 * w + b) / 5 = w by omega, show (5 * w + b) % 5 = b by omega] at this; rw [nI_add]; exact this)))
            · have ef : woN r b ≤ waN r w b := by rcases Nat.lt_or_ge (waN r w b) (woN r b) with q | q; exact absurd (nI_lt q (by omega)) h100; exact q
              refine wp_ic (pc := 103) (x := nI 1) dX9_rests_103 ic_1 ?_
              refine wp_goto (pc := 104) 108 dX9_rests_104 (by decide) ?_
              refine wp_istore (pc := 108) (L' := [_, _, _, _, _, _, _, _, _, _, _]) dX9_rests_108 (Nat.le_of_ble_eq_true rfl) rfl rfl ?_
              refine wp_ic (pc := 110) (x := nI 0) dX9_rests_110 ic_0 ?_
              refine wp_istore (pc := 111) (L' := [_, _, _, _, _, _, _, _, _, _, _]) dX9_rests_111 (Nat.le_of_ble_eq_true rfl) rfl rfl ?_
              first | refine inner r wh M5 hr hwh H F w b hw (by omega) (fun z6 => ?_) 5 0 true (by omega) (by omega) (fun _ => ⟨ef, fun j hj => absurd hj (Nat.not_lt_zero _)⟩) (fun q => by cases q) | refine inner r wh M5 hr hwh H F w b hw (by omega) (fun z6 => ?_) 5 0 false (by omega) (by omega) (fun q => by cases q) (fun _ => by cases qq : rsB r (5 * w + b) with | false => rfl | true => exact absurd ((rs_eq (by omega) hw).mp qq).1 ef)
              refine wp_iload (pc := 159) dX9_rests_159 rfl ?_
              refine wp_if_eq (pc := 161) 179 dX9_rests_161 (by decide) (fun h161 => ?_) (fun h161 => ?_)
              · have h161 := b2i_0 h161
                have h161' : (rsB r (5 * w + b)) = false := h161
                refine wp_iload (pc := 179) dX9_rests_179 rfl ?_
                refine wp_istore (pc := 181) (L' := [_, _, _, _, _, _, _, _, _, _, _]) dX9_rests_181 (Nat.le_of_ble_eq_true rfl) rfl rfl ?_
                refine wp_iload_n (pc := 183) dX9_rests_183 rfl ?_
                refine wp_iload (pc := 184) dX9_rests_184 rfl ?_
                refine wp_if_eq (pc := 186) 193 dX9_rests_186 (by decide) (fun h186 => ?_) (fun h186 => ?_)
                · have h186 := b2i_0 h186
                  have h161 : (rsB r (5 * w + b)) = false := h186
                  refine wp_ic (pc := 193) (x := nI 0) dX9_rests_193 ic_0 ?_
                  refine wp_iadd (pc := 194) dX9_rests_194 ?_
                  refine wp_istore_n (pc := 195) (L' := [_, _, _, _, _, _, _, _, _, _, _]) dX9_rests_195 (Nat.le_of_ble_eq_true rfl) rfl rfl ?_
                  first | (exact absurd (h161'.symm.trans h161) (by decide); done) | ((refine wp_iinc1 (pc := 196) (L' := [_, _, _, _, _, _, _, _, _, _, _]) dX9_rests_196 rfl rfl rfl ?_); (refine wp_goto (pc := 199) 48 dX9_rests_199 (by decide) ?_); (have := ih (b + 1) (some (.int (nI (waN r w b)))) (some (.int (nI (baN r w b)))) (some (.int (b2i (rsB r (5 * w + b))))) z6 (by omega) (by omega)); (rw [show 5 * w + (b + 1) = 5 * w + b + 1 from rfl] at this); (first | (rw [cnt_n h161, fst_n h161] at this; rw [nI_add]; exact this) | (rw [cnt_y h161, fst_m hc0] at this; rw [nI_add]; exact this) | (rw [cnt_y h161, fst_y h161 hc0, show (5 * w + b) / 5 = w by omega, show (5 * w + b) % 5 = b by omega] at this; rw [nI_add]; exact this)))
                · have h186 := b2i_1 h186
                  have h161 : (rsB r (5 * w + b)) = true := h186
                  refine wp_ic (pc := 189) (x := nI 1) dX9_rests_189 ic_1 ?_
                  refine wp_goto (pc := 190) 194 dX9_rests_190 (by decide) ?_
                  refine wp_iadd (pc := 194) dX9_rests_194 ?_
                  refine wp_istore_n (pc := 195) (L' := [_, _, _, _, _, _, _, _, _, _, _]) dX9_rests_195 (Nat.le_of_ble_eq_true rfl) rfl rfl ?_
                  first | (exact absurd (h161'.symm.trans h161) (by decide); done) | ((refine wp_iinc1 (pc := 196) (L' := [_, _, _, _, _, _, _, _, _, _, _]) dX9_rests_196 rfl rfl rfl ?_); (refine wp_goto (pc := 199) 48 dX9_rests_199 (by decide) ?_); (have := ih (b + 1) (some (.int (nI (waN r w b)))) (some (.int (nI (baN r w b)))) (some (.int (b2i (rsB r (5 * w + b))))) z6 (by omega) (by omega)); (rw [show 5 * w + (b + 1) = 5 * w + b + 1 from rfl] at this); (first | (rw [cnt_n h161, fst_n h161] at this; rw [nI_add]; exact this) | (rw [cnt_y h161, fst_m hc0] at this; rw [nI_add]; exact this) | (rw [cnt_y h161, fst_y h161 hc0, show (5 * w + b) / 5 = w by omega, show (5 * w + b) % 5 = b by omega] at this; rw [nI_add]; exact this)))
              · have h161 := b2i_1 h161
                have h161' : (rsB r (5 * w + b)) = true := h161
                refine wp_iload_n (pc := 164) dX9_rests_164 rfl ?_
                refine wp_if_ne (pc := 165) 179 dX9_rests_165 (by decide) (fun h165 => ?_) (fun h165 => ?_)
                · have hc0 : ¬ cntC (rsB r) (5 * w + b) = 0 := fun q => h165 (by rw [q]; rfl)
                  refine wp_iload (pc := 179) dX9_rests_179 rfl ?_
                  refine wp_istore (pc := 181) (L' := [_, _, _, _, _, _, _, _, _, _, _]) dX9_rests_181 (Nat.le_of_ble_eq_true rfl) rfl rfl ?_
                  refine wp_iload_n (pc := 183) dX9_rests_183 rfl ?_
                  refine wp_iload (pc := 184) dX9_rests_184 rfl ?_
                  refine wp_if_eq (pc := 186) 193 dX9_rests_186 (by decide) (fun h186 => ?_) (fun h186 => ?_)
                  · have h186 := b2i_0 h186
                    have h161 : (rsB r (5 * w + b)) = false := h186
                    refine wp_ic (pc := 193) (x := nI 0) dX9_rests_193 ic_0 ?_
                    refine wp_iadd (pc := 194) dX9_rests_194 ?_
                    refine wp_istore_n (pc := 195) (L' := [_, _, _, _, _, _, _, _, _, _, _]) dX9_rests_195 (Nat.le_of_ble_eq_true rfl) rfl rfl ?_
                    first | (exact absurd (h161'.symm.trans h161) (by decide); done) | ((refine wp_iinc1 (pc := 196) (L' := [_, _, _, _, _, _, _, _, _, _, _]) dX9_rests_196 rfl rfl rfl ?_); (refine wp_goto (pc := 199) 48 dX9_rests_199 (by decide) ?_); (have := ih (b + 1) (some (.int (nI (waN r w b)))) (some (.int (nI (baN r w b)))) (some (.int (b2i (rsB r (5 * w + b))))) z6 (by omega) (by omega)); (rw [show 5 * w + (b + 1) = 5 * w + b + 1 from rfl] at this); (first | (rw [cnt_n h161, fst_n h161] at this; rw [nI_add]; exact this) | (rw [cnt_y h161, fst_m hc0] at this; rw [nI_add]; exact this) | (rw [cnt_y h161, fst_y h161 hc0, show (5 * w + b) / 5 = w by omega, show (5 * w + b) % 5 = b by omega] at this; rw [nI_add]; exact this)))
                  · have h186 := b2i_1 h186
                    have h161 : (rsB r (5 * w + b)) = true := h186
                    refine wp_ic (pc := 189) (x := nI 1) dX9_rests_189 ic_1 ?_
                    refine wp_goto (pc := 190) 194 dX9_rests_190 (by decide) ?_
                    refine wp_iadd (pc := 194) dX9_rests_194 ?_
                    refine wp_istore_n (pc := 195) (L' := [_, _, _, _, _, _, _, _, _, _, _]) dX9_rests_195 (Nat.le_of_ble_eq_true rfl) rfl rfl ?_
                    first | (exact absurd (h161'.symm.trans h161) (by decide); done) | ((refine wp_iinc1 (pc := 196) (L' := [_, _, _, _, _, _, _, _, _, _, _]) dX9_rests_196 rfl rfl rfl ?_); (refine wp_goto (pc := 199) 48 dX9_rests_199 (by decide) ?_); (have := ih (b + 1) (some (.int (nI (waN r w b)))) (some (.int (nI (baN r w b)))) (some (.int (b2i (rsB r (5 * w + b))))) z6 (by omega) (by omega)); (rw [show 5 * w + (b + 1) = 5 * w + b + 1 from rfl] at this); (first | (rw [cnt_n h161, fst_n h161] at this; rw [nI_add]; exact this) | (rw [cnt_y h161, fst_m hc0] at this; rw [nI_add]; exact this) | (rw [cnt_y h161, fst_y h161 hc0, show (5 * w + b) / 5 = w by omega, show (5 * w + b) % 5 = b by omega] at this; rw [nI_add]; exact this)))
                · have hc0 : cntC (rsB r) (5 * w + b) = 0 := (nI_eq (by omega) (by omega)).mp h165
                  refine wp_bipush (pc := 168) (x := nI 10) dX9_rests_168 bp_10 ?_
                  refine wp_iload (pc := 170) dX9_rests_170 rfl ?_
                  refine wp_imul (pc := 172) dX9_rests_172 ?_
                  refine wp_iload (pc := 173) dX9_rests_173 rfl ?_
                  refine wp_iadd (pc := 175) dX9_rests_175 ?_
                  refine wp_top (nI (10 * w + b)) (by rw [pk_mul, nI_add]) ?_
                  refine wp_goto (pc := 176) 181 dX9_rests_176 (by decide) ?_
                  refine wp_istore (pc := 181) (L' := [_, _, _, _, _, _, _, _, _, _, _]) dX9_rests_181 (Nat.le_of_ble_eq_true rfl) rfl rfl ?_
                  refine wp_iload_n (pc := 183) dX9_rests_183 rfl ?_
                  refine wp_iload (pc := 184) dX9_rests_184 rfl ?_
                  refine wp_if_eq (pc := 186) 193 dX9_rests_186 (by decide) (fun h186 => ?_) (fun h186 => ?_)
                  · have h186 := b2i_0 h186
                    have h161 : (rsB r (5 * w + b)) = false := h186
                    refine wp_ic (pc := 193) (x := nI 0) dX9_rests_193 ic_0 ?_
                    refine wp_iadd (pc := 194) dX9_rests_194 ?_
                    refine wp_istore_n (pc := 195) (L' := [_, _, _, _, _, _, _, _, _, _, _]) dX9_rests_195 (Nat.le_of_ble_eq_true rfl) rfl rfl ?_
                    first | (exact absurd (h161'.symm.trans h161) (by decide); done) | ((refine wp_iinc1 (pc := 196) (L' := [_, _, _, _, _, _, _, _, _, _, _]) dX9_rests_196 rfl rfl rfl ?_); (refine wp_goto (pc := 199) 48 dX9_rests_199 (by decide) ?_); (have := ih (b + 1) (some (.int (nI (waN r w b)))) (some (.int (nI (baN r w b)))) (some (.int (b2i (rsB r (5 * w + b))))) z6 (by omega) (by omega)); (rw [show 5 * w + (b + 1) = 5 * w + b + 1 from rfl] at this); (first | (rw [cnt_n h161, fst_n h161] at this; rw [nI_add]; exact this) | (rw [cnt_y h161, fst_m hc0] at this; rw [nI_add]; exact this) | (rw [cnt_y h161, fst_y h161 hc0, show (5 * w + b) / 5 = w by omega, show (5 * w + b) % 5 = b by omega] at this; rw [nI_add]; exact this)))
                  · have h186 := b2i_1 h186
                    have h161 : (rsB r (5 * w + b)) = true := h186
                    refine wp_ic (pc := 189) (x := nI 1) dX9_rests_189 ic_1 ?_
                    refine wp_goto (pc := 190) 194 dX9_rests_190 (by decide) ?_
                    refine wp_iadd (pc := 194) dX9_rests_194 ?_
                    refine wp_istore_n (pc := 195) (L' := [_, _, _, _, _, _, _, _, _, _, _]) dX9_rests_195 (Nat.le_of_ble_eq_true rfl) rfl rfl ?_
                    first | (exact absurd (h161'.symm.trans h161) (by decide); done) | ((refine wp_iinc1 (pc := 196) (L' := [_, _, _, _, _, _, _, _, _, _, _]) dX9_rests_196 rfl rfl rfl ?_); (refine wp_goto (pc := 199) 48 dX9_rests_199 (by decide) ?_); (have := ih (b + 1) (some (.int (nI (waN r w b)))) (some (.int (nI (baN r w b)))) (some (.int (b2i (rsB r (5 * w + b))))) z6 (by omega) (by omega)); (rw [show 5 * w + (b + 1) = 5 * w + b + 1 from rfl] at this); (first | (rw [cnt_n h161, fst_n h161] at this; rw [nI_add]; exact this) | (rw [cnt_y h161, fst_m hc0] at this; rw [nI_add]; exact this) | (rw [cnt_y h161, fst_y h161 hc0, show (5 * w + b) / 5 = w by omega, show (5 * w + b) % 5 = b by omega] at this; rw [nI_add]; exact this)))
          · have eba : 0 = baN r w b := by unfold baN; rw [if_pos ((nI_eq (by omega) (by omega)).mp h77)]
            refine wp_ic (pc := 80) (x := nI 0) dX9_rests_80 ic_0 ?_
            refine wp_goto (pc := 81) 90 dX9_rests_81 (by decide) ?_
            refine wp_top (nI (baN r w b)) (congrArg nI eba) ?_
            refine wp_istore (pc := 90) (L' := [_, _, _, _, _, _, _, _, _, _, _]) dX9_rests_90 (Nat.le_of_ble_eq_true rfl) rfl rfl ?_
            refine wp_iload_n (pc := 92) dX9_rests_92 rfl ?_
            refine wp_iload (pc := 93) dX9_rests_93 rfl ?_
            refine wf_callSi (pc := 95) dX9_rests_95 cl_X9_226 (cR_worthOf hr (by omega)) rfl rfl (Nat.le_of_ble_eq_true rfl) (by decide) ⟨Nat.le_refl _, Nat.le_refl _⟩ (fun r95 M95 q95 => ?_)
            rw [q95.1, q95.2]
            refine wp_iload (pc := 98) dX9_rests_98 rfl ?_
            refine wp_icmp_gt (pc := 100) 107 dX9_rests_100 (by decide) (fun h100 => ?_) (fun h100 => ?_)
            · have ef : ¬ woN r b ≤ waN r w b := fun q => absurd (nI_le q (by omega)) (Int32.not_le.mpr h100)
              refine wp_ic (pc := 107) (x := nI 0) dX9_rests_107 ic_0 ?_
              refine wp_istore (pc := 108) (L' := [_, _, _, _, _, _, _, _, _, _, _]) dX9_rests_108 (Nat.le_of_ble_eq_true rfl) rfl rfl ?_
              refine wp_ic (pc := 110) (x := nI 0) dX9_rests_110 ic_0 ?_
              refine wp_istore (pc := 111) (L' := [_, _, _, _, _, _, _, _, _, _, _]) dX9_rests_111 (Nat.le_of_ble_eq_true rfl) rfl rfl ?_
              first | refine inner r wh M5 hr hwh H F w b hw (by omega) (fun z6 => ?_) 5 0 true (by omega) (by omega) (fun _ => ⟨ef, fun j hj => absurd hj (Nat.not_lt_zero _)⟩) (fun q => by cases q) | refine inner r wh M5 hr hwh H F w b hw (by omega) (fun z6 => ?_) 5 0 false (by omega) (by omega) (fun q => by cases q) (fun _ => by cases qq : rsB r (5 * w + b) with | false => rfl | true => exact absurd ((rs_eq (by omega) hw).mp qq).1 ef)
              refine wp_iload (pc := 159) dX9_rests_159 rfl ?_
              refine wp_if_eq (pc := 161) 179 dX9_rests_161 (by decide) (fun h161 => ?_) (fun h161 => ?_)
              · have h161 := b2i_0 h161
                have h161' : (rsB r (5 * w + b)) = false := h161
                refine wp_iload (pc := 179) dX9_rests_179 rfl ?_
                refine wp_istore (pc := 181) (L' := [_, _, _, _, _, _, _, _, _, _, _]) dX9_rests_181 (Nat.le_of_ble_eq_true rfl) rfl rfl ?_
                refine wp_iload_n (pc := 183) dX9_rests_183 rfl ?_
                refine wp_iload (pc := 184) dX9_rests_184 rfl ?_
                refine wp_if_eq (pc := 186) 193 dX9_rests_186 (by decide) (fun h186 => ?_) (fun h186 => ?_)
                · have h186 := b2i_0 h186
                  have h161 : (rsB r (5 * w + b)) = false := h186
                  refine wp_ic (pc := 193) (x := nI 0) dX9_rests_193 ic_0 ?_
                  refine wp_iadd (pc := 194) dX9_rests_194 ?_
                  refine wp_istore_n (pc := 195) (L' := [_, _, _, _, _, _, _, _, _, _, _]) dX9_rests_195 (Nat.le_of_ble_eq_true rfl) rfl rfl ?_
                  first | (exact absurd (h161'.symm.trans h161) (by decide); done) | ((refine wp_iinc1 (pc := 196) (L' := [_, _, _, _, _, _, _, _, _, _, _]) dX9_rests_196 rfl rfl rfl ?_); (refine wp_goto (pc := 199) 48 dX9_rests_199 (by decide) ?_); (have := ih (b + 1) (some (.int (nI (waN r w b)))) (some (.int (nI (baN r w b)))) (some (.int (b2i (rsB r (5 * w + b))))) z6 (by omega) (by omega)); (rw [show 5 * w + (b + 1) = 5 * w + b + 1 from rfl] at this); (first | (rw [cnt_n h161, fst_n h161] at this; rw [nI_add]; exact this) | (rw [cnt_y h161, fst_m hc0] at this; rw [nI_add]; exact this) | (rw [cnt_y h161, fst_y h161 hc0, show (5 * w + b) / 5 = w by omega, show (5 * w + b) % 5 = b by omega] at this; rw [nI_add]; exact this)))
                · have h186 := b2i_1 h186
                  have h161 : (rsB r (5 * w + b)) = true := h186
                  refine wp_ic (pc := 189) (x := nI 1) dX9_rests_189 ic_1 ?_
                  refine wp_goto (pc := 190) 194 dX9_rests_190 (by decide) ?_
                  refine wp_iadd (pc := 194) dX9_rests_194 ?_
                  refine wp_istore_n (pc := 195) (L' := [_, _, _, _, _, _, _, _, _, _, _]) dX9_rests_195 (Nat.le_of_ble_eq_true rfl) rfl rfl ?_
                  first | (exact absurd (h161'.symm.trans h161) (by decide); done) | ((refine wp_iinc1 (pc := 196) (L' := [_, _, _, _, _, _, _, _, _, _, _]) dX9_rests_196 rfl rfl rfl ?_); (refine wp_goto (pc := 199) 48 dX9_rests_199 (by decide) ?_); (have := ih (b + 1) (some (.int (nI (waN r w b)))) (some (.int (nI (baN r w b)))) (some (.int (b2i (rsB r (5 * w + b))))) z6 (by omega) (by omega)); (rw [show 5 * w + (b + 1) = 5 * w + b + 1 from rfl] at this); (first | (rw [cnt_n h161, fst_n h161] at this; rw [nI_add]; exact this) | (rw [cnt_y h161, fst_m hc0] at this; rw [nI_add]; exact this) | (rw [cnt_y h161, fst_y h161 hc0, show (5 * w + b) / 5 = w by omega, show (5 * w + b) % 5 = b by omega] at this; rw [nI_add]; exact this)))
              · have h161 := b2i_1 h161
                have h161' : (rsB r (5 * w + b)) = true := h161
                refine wp_iload_n (pc := 164) dX9_rests_164 rfl ?_
                refine wp_if_ne (pc := 165) 179 dX9_rests_165 (by decide) (fun h165 => ?_) (fun h165 => ?_)
                · have hc0 : ¬ cntC (rsB r) (5 * w + b) = 0 := fun q => h165 (by rw [q]; rfl)
                  refine wp_iload (pc := 179) dX9_rests_179 rfl ?_
                  refine wp_istore (pc := 181) (L' := [_, _, _, _, _, _, _, _, _, _, _]) dX9_rests_181 (Nat.le_of_ble_eq_true rfl) rfl rfl ?_
                  refine wp_iload_n (pc := 183) dX9_rests_183 rfl ?_
                  refine wp_iload (pc := 184) dX9_rests_184 rfl ?_
                  refine wp_if_eq (pc := 186) 193 dX9_rests_186 (by decide) (fun h186 => ?_) (fun h186 => ?_)
                  · have h186 := b2i_0 h186
                    have h161 : (rsB r (5 * w + b)) = false := h186
                    refine wp_ic (pc := 193) (x := nI 0) dX9_rests_193 ic_0 ?_
                    refine wp_iadd (pc := 194) dX9_rests_194 ?_
                    refine wp_istore_n (pc := 195) (L' := [_, _, _, _, _, _, _, _, _, _, _]) dX9_rests_195 (Nat.le_of_ble_eq_true rfl) rfl rfl ?_
                    first | (exact absurd (h161'.symm.trans h161) (by decide); done) | ((refine wp_iinc1 (pc := 196) (L' := [_, _, _, _, _, _, _, _, _, _, _]) dX9_rests_196 rfl rfl rfl ?_); (refine wp_goto (pc := 199) 48 dX9_rests_199 (by decide) ?_); (have := ih (b + 1) (some (.int (nI (waN r w b)))) (some (.int (nI (baN r w b)))) (some (.int (b2i (rsB r (5 * w + b))))) z6 (by omega) (by omega)); (rw [show 5 * w + (b + 1) = 5 * w + b + 1 from rfl] at this); (first | (rw [cnt_n h161, fst_n h161] at this; rw [nI_add]; exact this) | (rw [cnt_y h161, fst_m hc0] at this; rw [nI_add]; exact this) | (rw [cnt_y h161, fst_y h161 hc0, show (5 * w + b) / 5 = w by omega, show (5 * w + b) % 5 = b by omega] at this; rw [nI_add]; exact this)))
                  · have h186 := b2i_1 h186
                    have h161 : (rsB r (5 * w + b)) = true := h186
                    refine wp_ic (pc := 189) (x := nI 1) dX9_rests_189 ic_1 ?_
                    refine wp_goto (pc := 190) 194 dX9_rests_190 (by decide) ?_
                    refine wp_iadd (pc := 194) dX9_rests_194 ?_
                    refine wp_istore_n (pc := 195) (L' := [_, _, _, _, _, _, _, _, _, _, _]) dX9_rests_195 (Nat.le_of_ble_eq_true rfl) rfl rfl ?_
                    first | (exact absurd (h161'.symm.trans h161) (by decide); done) | ((refine wp_iinc1 (pc := 196) (L' := [_, _, _, _, _, _, _, _, _, _, _]) dX9_rests_196 rfl rfl rfl ?_); (refine wp_goto (pc := 199) 48 dX9_rests_199 (by decide) ?_); (have := ih (b + 1) (some (.int (nI (waN r w b)))) (some (.int (nI (baN r w b)))) (some (.int (b2i (rsB r (5 * w + b))))) z6 (by omega) (by omega)); (rw [show 5 * w + (b + 1) = 5 * w + b + 1 from rfl] at this); (first | (rw [cnt_n h161, fst_n h161] at this; rw [nI_add]; exact this) | (rw [cnt_y h161, fst_m hc0] at this; rw [nI_add]; exact this) | (rw [cnt_y h161, fst_y h161 hc0, show (5 * w + b) / 5 = w by omega, show (5 * w + b) % 5 = b by omega] at this; rw [nI_add]; exact this)))
                · have hc0 : cntC (rsB r) (5 * w + b) = 0 := (nI_eq (by omega) (by omega)).mp h165
                  refine wp_bipush (pc := 168) (x := nI 10) dX9_rests_168 bp_10 ?_
                  refine wp_iload (pc := 170) dX9_rests_170 rfl ?_
                  refine wp_imul (pc := 172) dX9_rests_172 ?_
                  refine wp_iload (pc := 173) dX9_rests_173 rfl ?_
                  refine wp_iadd (pc := 175) dX9_rests_175 ?_
                  refine wp_top (nI (10 * w + b)) (by rw [pk_mul, nI_add]) ?_
                  refine wp_goto (pc := 176) 181 dX9_rests_176 (by decide) ?_
                  refine wp_istore (pc := 181) (L' := [_, _, _, _, _, _, _, _, _, _, _]) dX9_rests_181 (Nat.le_of_ble_eq_true rfl) rfl rfl ?_
                  refine wp_iload_n (pc := 183) dX9_rests_183 rfl ?_
                  refine wp_iload (pc := 184) dX9_rests_184 rfl ?_
                  refine wp_if_eq (pc := 186) 193 dX9_rests_186 (by decide) (fun h186 => ?_) (fun h186 => ?_)
                  · have h186 := b2i_0 h186
                    have h161 : (rsB r (5 * w + b)) = false := h186
                    refine wp_ic (pc := 193) (x := nI 0) dX9_rests_193 ic_0 ?_
                    refine wp_iadd (pc := 194) dX9_rests_194 ?_
                    refine wp_istore_n (pc := 195) (L' := [_, _, _, _, _, _, _, _, _, _, _]) dX9_rests_195 (Nat.le_of_ble_eq_true rfl) rfl rfl ?_
                    first | (exact absurd (h161'.symm.trans h161) (by decide); done) | ((refine wp_iinc1 (pc := 196) (L' := [_, _, _, _, _, _, _, _, _, _, _]) dX9_rests_196 rfl rfl rfl ?_); (refine wp_goto (pc := 199) 48 dX9_rests_199 (by decide) ?_); (have := ih (b + 1) (some (.int (nI (waN r w b)))) (some (.int (nI (baN r w b)))) (some (.int (b2i (rsB r (5 * w + b))))) z6 (by omega) (by omega)); (rw [show 5 * w + (b + 1) = 5 * w + b + 1 from rfl] at this); (first | (rw [cnt_n h161, fst_n h161] at this; rw [nI_add]; exact this) | (rw [cnt_y h161, fst_m hc0] at this; rw [nI_add]; exact this) | (rw [cnt_y h161, fst_y h161 hc0, show (5 * w + b) / 5 = w by omega, show (5 * w + b) % 5 = b by omega] at this; rw [nI_add]; exact this)))
                  · have h186 := b2i_1 h186
                    have h161 : (rsB r (5 * w + b)) = true := h186
                    refine wp_ic (pc := 189) (x := nI 1) dX9_rests_189 ic_1 ?_
                    refine wp_goto (pc := 190) 194 dX9_rests_190 (by decide) ?_
                    refine wp_iadd (pc := 194) dX9_rests_194 ?_
                    refine wp_istore_n (pc := 195) (L' := [_, _, _, _, _, _, _, _, _, _, _]) dX9_rests_195 (Nat.le_of_ble_eq_true rfl) rfl rfl ?_
                    first | (exact absurd (h161'.symm.trans h161) (by decide); done) | ((refine wp_iinc1 (pc := 196) (L' := [_, _, _, _, _, _, _, _, _, _, _]) dX9_rests_196 rfl rfl rfl ?_); (refine wp_goto (pc := 199) 48 dX9_rests_199 (by decide) ?_); (have := ih (b + 1) (some (.int (nI (waN r w b)))) (some (.int (nI (baN r w b)))) (some (.int (b2i (rsB r (5 * w + b))))) z6 (by omega) (by omega)); (rw [show 5 * w + (b + 1) = 5 * w + b + 1 from rfl] at this); (first | (rw [cnt_n h161, fst_n h161] at this; rw [nI_add]; exact this) | (rw [cnt_y h161, fst_m hc0] at this; rw [nI_add]; exact this) | (rw [cnt_y h161, fst_y h161 hc0, show (5 * w + b) / 5 = w by omega, show (5 * w + b) % 5 = b by omega] at this; rw [nI_add]; exact this)))
            · have ef : woN r b ≤ waN r w b := by rcases Nat.lt_or_ge (waN r w b) (woN r b) with q | q; exact absurd (nI_lt q (by omega)) h100; exact q
              refine wp_ic (pc := 103) (x := nI 1) dX9_rests_103 ic_1 ?_
              refine wp_goto (pc := 104) 108 dX9_rests_104 (by decide) ?_
              refine wp_istore (pc := 108) (L' := [_, _, _, _, _, _, _, _, _, _, _]) dX9_rests_108 (Nat.le_of_ble_eq_true rfl) rfl rfl ?_
              refine wp_ic (pc := 110) (x := nI 0) dX9_rests_110 ic_0 ?_
              refine wp_istore (pc := 111) (L' := [_, _, _, _, _, _, _, _, _, _, _]) dX9_rests_111 (Nat.le_of_ble_eq_true rfl) rfl rfl ?_
              first | refine inner r wh M5 hr hwh H F w b hw (by omega) (fun z6 => ?_) 5 0 true (by omega) (by omega) (fun _ => ⟨ef, fun j hj => absurd hj (Nat.not_lt_zero _)⟩) (fun q => by cases q) | refine inner r wh M5 hr hwh H F w b hw (by omega) (fun z6 => ?_) 5 0 false (by omega) (by omega) (fun q => by cases q) (fun _ => by cases qq : rsB r (5 * w + b) with | false => rfl | true => exact absurd ((rs_eq (by omega) hw).mp qq).1 ef)
              refine wp_iload (pc := 159) dX9_rests_159 rfl ?_
              refine wp_if_eq (pc := 161) 179 dX9_rests_161 (by decide) (fun h161 => ?_) (fun h161 => ?_)
              · have h161 := b2i_0 h161
                have h161' : (rsB r (5 * w + b)) = false := h161
                refine wp_iload (pc := 179) dX9_rests_179 rfl ?_
                refine wp_istore (pc := 181) (L' := [_, _, _, _, _, _, _, _, _, _, _]) dX9_rests_181 (Nat.le_of_ble_eq_true rfl) rfl rfl ?_
                refine wp_iload_n (pc := 183) dX9_rests_183 rfl ?_
                refine wp_iload (pc := 184) dX9_rests_184 rfl ?_
                refine wp_if_eq (pc := 186) 193 dX9_rests_186 (by decide) (fun h186 => ?_) (fun h186 => ?_)
                · have h186 := b2i_0 h186
                  have h161 : (rsB r (5 * w + b)) = false := h186
                  refine wp_ic (pc := 193) (x := nI 0) dX9_rests_193 ic_0 ?_
                  refine wp_iadd (pc := 194) dX9_rests_194 ?_
                  refine wp_istore_n (pc := 195) (L' := [_, _, _, _, _, _, _, _, _, _, _]) dX9_rests_195 (Nat.le_of_ble_eq_true rfl) rfl rfl ?_
                  first | (exact absurd (h161'.symm.trans h161) (by decide); done) | ((refine wp_iinc1 (pc := 196) (L' := [_, _, _, _, _, _, _, _, _, _, _]) dX9_rests_196 rfl rfl rfl ?_); (refine wp_goto (pc := 199) 48 dX9_rests_199 (by decide) ?_); (have := ih (b + 1) (some (.int (nI (waN r w b)))) (some (.int (nI (baN r w b)))) (some (.int (b2i (rsB r (5 * w + b))))) z6 (by omega) (by omega)); (rw [show 5 * w + (b + 1) = 5 * w + b + 1 from rfl] at this); (first | (rw [cnt_n h161, fst_n h161] at this; rw [nI_add]; exact this) | (rw [cnt_y h161, fst_m hc0] at this; rw [nI_add]; exact this) | (rw [cnt_y h161, fst_y h161 hc0, show (5 * w + b) / 5 = w by omega, show (5 * w + b) % 5 = b by omega] at this; rw [nI_add]; exact this)))
                · have h186 := b2i_1 h186
                  have h161 : (rsB r (5 * w + b)) = true := h186
                  refine wp_ic (pc := 189) (x := nI 1) dX9_rests_189 ic_1 ?_
                  refine wp_goto (pc := 190) 194 dX9_rests_190 (by decide) ?_
                  refine wp_iadd (pc := 194) dX9_rests_194 ?_
                  refine wp_istore_n (pc := 195) (L' := [_, _, _, _, _, _, _, _, _, _, _]) dX9_rests_195 (Nat.le_of_ble_eq_true rfl) rfl rfl ?_
                  first | (exact absurd (h161'.symm.trans h161) (by decide); done) | ((refine wp_iinc1 (pc := 196) (L' := [_, _, _, _, _, _, _, _, _, _, _]) dX9_rests_196 rfl rfl rfl ?_); (refine wp_goto (pc := 199) 48 dX9_rests_199 (by decide) ?_); (have := ih (b + 1) (some (.int (nI (waN r w b)))) (some (.int (nI (baN r w b)))) (some (.int (b2i (rsB r (5 * w + b))))) z6 (by omega) (by omega)); (rw [show 5 * w + (b + 1) = 5 * w + b + 1 from rfl] at this); (first | (rw [cnt_n h161, fst_n h161] at this; rw [nI_add]; exact this) | (rw [cnt_y h161, fst_m hc0] at this; rw [nI_add]; exact this) | (rw [cnt_y h161, fst_y h161 hc0, show (5 * w + b) / 5 = w by omega, show (5 * w + b) % 5 = b by omega] at this; rw [nI_add]; exact this)))
              · have h161 := b2i_1 h161
                have h161' : (rsB r (5 * w + b)) = true := h161
                refine wp_iload_n (pc := 164) dX9_rests_164 rfl ?_
                refine wp_if_ne (pc := 165) 179 dX9_rests_165 (by decide) (fun h165 => ?_) (fun h165 => ?_)
                · have hc0 : ¬ cntC (rsB r) (5 * w + b) = 0 := fun q => h165 (by rw [q]; rfl)
                  refine wp_iload (pc := 179) dX9_rests_179 rfl ?_
                  refine wp_istore (pc := 181) (L' := [_, _, _, _, _, _, _, _, _, _, _]) dX9_rests_181 (Nat.le_of_ble_eq_true rfl) rfl rfl ?_
                  refine wp_iload_n (pc := 183) dX9_rests_183 rfl ?_
                  refine wp_iload (pc := 184) dX9_rests_184 rfl ?_
                  refine wp_if_eq (pc := 186) 193 dX9_rests_186 (by decide) (fun h186 => ?_) (fun h186 => ?_)
                  · have h186 := b2i_0 h186
                    have h161 : (rsB r (5 * w + b)) = false := h186
                    refine wp_ic (pc := 193) (x := nI 0) dX9_rests_193 ic_0 ?_
                    refine wp_iadd (pc := 194) dX9_rests_194 ?_
                    refine wp_istore_n (pc := 195) (L' := [_, _, _, _, _, _, _, _, _, _, _]) dX9_rests_195 (Nat.le_of_ble_eq_true rfl) rfl rfl ?_
                    first | (exact absurd (h161'.symm.trans h161) (by decide); done) | ((refine wp_iinc1 (pc := 196) (L' := [_, _, _, _, _, _, _, _, _, _, _]) dX9_rests_196 rfl rfl rfl ?_); (refine wp_goto (pc := 199) 48 dX9_rests_199 (by decide) ?_); (have := ih (b + 1) (some (.int (nI (waN r w b)))) (some (.int (nI (baN r w b)))) (some (.int (b2i (rsB r (5 * w + b))))) z6 (by omega) (by omega)); (rw [show 5 * w + (b + 1) = 5 * w + b + 1 from rfl] at this); (first | (rw [cnt_n h161, fst_n h161] at this; rw [nI_add]; exact this) | (rw [cnt_y h161, fst_m hc0] at this; rw [nI_add]; exact this) | (rw [cnt_y h161, fst_y h161 hc0, show (5 * w + b) / 5 = w by omega, show (5 * w + b) % 5 = b by omega] at this; rw [nI_add]; exact this)))
                  · have h186 := b2i_1 h186
                    have h161 : (rsB r (5 * w + b)) = true := h186
                    refine wp_ic (pc := 189) (x := nI 1) dX9_rests_189 ic_1 ?_
                    refine wp_goto (pc := 190) 194 dX9_rests_190 (by decide) ?_
                    refine wp_iadd (pc := 194) dX9_rests_194 ?_
                    refine wp_istore_n (pc := 195) (L' := [_, _, _, _, _, _, _, _, _, _, _]) dX9_rests_195 (Nat.le_of_ble_eq_true rfl) rfl rfl ?_
                    first | (exact absurd (h161'.symm.trans h161) (by decide); done) | ((refine wp_iinc1 (pc := 196) (L' := [_, _, _, _, _, _, _, _, _, _, _]) dX9_rests_196 rfl rfl rfl ?_); (refine wp_goto (pc := 199) 48 dX9_rests_199 (by decide) ?_); (have := ih (b + 1) (some (.int (nI (waN r w b)))) (some (.int (nI (baN r w b)))) (some (.int (b2i (rsB r (5 * w + b))))) z6 (by omega) (by omega)); (rw [show 5 * w + (b + 1) = 5 * w + b + 1 from rfl] at this); (first | (rw [cnt_n h161, fst_n h161] at this; rw [nI_add]; exact this) | (rw [cnt_y h161, fst_m hc0] at this; rw [nI_add]; exact this) | (rw [cnt_y h161, fst_y h161 hc0, show (5 * w + b) / 5 = w by omega, show (5 * w + b) % 5 = b by omega] at this; rw [nI_add]; exact this)))
                · have hc0 : cntC (rsB r) (5 * w + b) = 0 := (nI_eq (by omega) (by omega)).mp h165
                  refine wp_bipush (pc := 168) (x := nI 10) dX9_rests_168 bp_10 ?_
                  refine wp_iload (pc := 170) dX9_rests_170 rfl ?_
                  refine wp_imul (pc := 172) dX9_rests_172 ?_
                  refine wp_iload (pc := 173) dX9_rests_173 rfl ?_
                  refine wp_iadd (pc := 175) dX9_rests_175 ?_
                  refine wp_top (nI (10 * w + b)) (by rw [pk_mul, nI_add]) ?_
                  refine wp_goto (pc := 176) 181 dX9_rests_176 (by decide) ?_
                  refine wp_istore (pc := 181) (L' := [_, _, _, _, _, _, _, _, _, _, _]) dX9_rests_181 (Nat.le_of_ble_eq_true rfl) rfl rfl ?_
                  refine wp_iload_n (pc := 183) dX9_rests_183 rfl ?_
                  refine wp_iload (pc := 184) dX9_rests_184 rfl ?_
                  refine wp_if_eq (pc := 186) 193 dX9_rests_186 (by decide) (fun h186 => ?_) (fun h186 => ?_)
                  · have h186 := b2i_0 h186
                    have h161 : (rsB r (5 * w + b)) = false := h186
                    refine wp_ic (pc := 193) (x := nI 0) dX9_rests_193 ic_0 ?_
                    refine wp_iadd (pc := 194) dX9_rests_194 ?_
                    refine wp_istore_n (pc := 195) (L' := [_, _, _, _, _, _, _, _, _, _, _]) dX9_rests_195 (Nat.le_of_ble_eq_true rfl) rfl rfl ?_
                    first | (exact absurd (h161'.symm.trans h161) (by decide); done) | ((refine wp_iinc1 (pc := 196) (L' := [_, _, _, _, _, _, _, _, _, _, _]) dX9_rests_196 rfl rfl rfl ?_); (refine wp_goto (pc := 199) 48 dX9_rests_199 (by decide) ?_); (have := ih (b + 1) (some (.int (nI (waN r w b)))) (some (.int (nI (baN r w b)))) (some (.int (b2i (rsB r (5 * w + b))))) z6 (by omega) (by omega)); (rw [show 5 * w + (b + 1) = 5 * w + b + 1 from rfl] at this); (first | (rw [cnt_n h161, fst_n h161] at this; rw [nI_add]; exact this) | (rw [cnt_y h161, fst_m hc0] at this; rw [nI_add]; exact this) | (rw [cnt_y h161, fst_y h161 hc0, show (5 * w + b) / 5 = w by omega, show (5 * w + b) % 5 = b by omega] at this; rw [nI_add]; exact this)))
                  · have h186 := b2i_1 h186
                    have h161 : (rsB r (5 * w + b)) = true := h186
                    refine wp_ic (pc := 189) (x := nI 1) dX9_rests_189 ic_1 ?_
                    refine wp_goto (pc := 190) 194 dX9_rests_190 (by decide) ?_
                    refine wp_iadd (pc := 194) dX9_rests_194 ?_
                    refine wp_istore_n (pc := 195) (L' := [_, _, _, _, _, _, _, _, _, _, _]) dX9_rests_195 (Nat.le_of_ble_eq_true rfl) rfl rfl ?_
                    first | (exact absurd (h161'.symm.trans h161) (by decide); done) | ((refine wp_iinc1 (pc := 196) (L' := [_, _, _, _, _, _, _, _, _, _, _]) dX9_rests_196 rfl rfl rfl ?_); (refine wp_goto (pc := 199) 48 dX9_rests_199 (by decide) ?_); (have := ih (b + 1) (some (.int (nI (waN r w b)))) (some (.int (nI (baN r w b)))) (some (.int (b2i (rsB r (5 * w + b))))) z6 (by omega) (by omega)); (rw [show 5 * w + (b + 1) = 5 * w + b + 1 from rfl] at this); (first | (rw [cnt_n h161, fst_n h161] at this; rw [nI_add]; exact this) | (rw [cnt_y h161, fst_m hc0] at this; rw [nI_add]; exact this) | (rw [cnt_y h161, fst_y h161 hc0, show (5 * w + b) / 5 = w by omega, show (5 * w + b) % 5 = b by omega] at this; rw [nI_add]; exact this)))
  have outer : ∀ (r wh : Nat) (M5 : Mm), r ≤ 99999 → wh ≤ 1 → XM M5 s → Fm M M5 → ∀ (q w : Nat) (z1 z2 z3 z4 z5 : Option Value), q = 5 - w → w ≤ 5 → Wp E K mX9_rests 2 (0, 0) 39 [some (.ref (K.1 + 150)), some (.int (nI r)), some (.int (nI wh)), some (.int (nI (cntC (rsB r) (5 * w)))), some (.int (fstR r (5 * w))), some (.int (nI w)), z1, z2, z3, z4, z5] [] 168 M5 0 0 (zI E K (fun rv M' => rv = oRests (nI r) (nI wh) ∧ XM M' s ∧ Fm M M')) := by
    intro r wh M5 hr hwh H F q
    induction q with
    | zero =>
      intro w z1 z2 z3 z4 z5 hq hw
      have hcl := cntC_le (rsB r) (5 * w)
      refine wp_iload (pc := 39) dX9_rests_39 rfl ?_
      refine wp_ic (pc := 41) (x := nI 5) dX9_rests_41 ic_5 ?_
      refine wp_icmp_ge (pc := 42) 208 dX9_rests_42 (by decide) (fun h42 => ?_) (fun h42 => ?_)
      · refine wp_iload_n (pc := 208) dX9_rests_208 rfl ?_
        refine wp_if_ne (pc := 209) 216 dX9_rests_209 (by decide) (fun h209 => ?_) (fun h209 => ?_)
        · have ew : w = 5 := by omega
          subst ew
          unfold oRests
          rw [if_pos ⟨rg_y (nI_nlt (Nat.zero_le _) (by omega)) (nI_nlt hr (by omega)), rg_y (nI_nlt (Nat.zero_le _) (by omega)) (nI_nlt hwh (by omega))⟩, nI_cl (by omega), nI_cl (by omega)]
          rw [if_neg (fun q => h209 (by rw [q]; rfl))]
          refine wp_iload (pc := 216) dX9_rests_216 rfl ?_
          refine wf_iret (pc := 218) dX9_rests_218 rfl ?_
          exact ⟨rfl, H, F⟩
        · have ew : w = 5 := by omega
          subst ew
          unfold oRests
          rw [if_pos ⟨rg_y (nI_nlt (Nat.zero_le _) (by omega)) (nI_nlt hr (by omega)), rg_y (nI_nlt (Nat.zero_le _) (by omega)) (nI_nlt hwh (by omega))⟩, nI_cl (by omega), nI_cl (by omega)]
          rw [if_pos ((nI_eq (show wh < 2 ^ 31 by omega) (show 0 < 2 ^ 31 by decide)).mp h209)]
          refine wp_iload_n (pc := 212) dX9_rests_212 rfl ?_
          refine wp_goto (pc := 213) 218 dX9_rests_213 (by decide) ?_
          refine wf_iret (pc := 218) dX9_rests_218 rfl ?_
          exact ⟨rfl, H, F⟩
      · exact absurd (nI_le (by omega) (by omega)) h42
    | succ q ih =>
      intro w z1 z2 z3 z4 z5 hq hw
      refine wp_iload (pc := 39) dX9_rests_39 rfl ?_
      refine wp_ic (pc := 41) (x := nI 5) dX9_rests_41 ic_5 ?_
      refine wp_icmp_ge (pc := 42) 208 dX9_rests_42 (by decide) (fun h42 => ?_) (fun h42 => ?_)
      · exact absurd h42 (nI_ge (by omega) (by omega))
      · refine wp_ic (pc := 45) (x := nI 0) dX9_rests_45 ic_0 ?_
        refine wp_istore (pc := 46) (L' := [_, _, _, _, _, _, _, _, _, _, _]) dX9_rests_46 (Nat.le_of_ble_eq_true rfl) rfl rfl ?_
        refine mid r wh M5 hr hwh H F w (by omega) (fun z6 z7 z8 z9 z10 => ?_) 5 0 _ _ _ _ (by omega) (by omega)
        refine wp_iinc1 (pc := 202) (L' := [_, _, _, _, _, _, _, _, _, _, _]) dX9_rests_202 rfl rfl rfl ?_
        refine wp_goto (pc := 205) 39 dX9_rests_205 (by decide) ?_
        exact ih (w + 1) _ _ _ _ _ (by omega) (by omega)
  refine wp_aload_n (pc := 0) dX9_rests_0 rfl ?_
  refine wp_ic (pc := 1) (x := nI 0) dX9_rests_1 ic_0 ?_
  refine wf_putI (pc := 2) dX9_rests_2 fl_X9_66 lk_150 ?_
  have F : Fm M (wI M 150 0 (nI 0)) := Fm.w (by decide)
  have H := H.f (k := 0) (nI 0) (by decide)
  generalize wI M 150 0 (nI 0) = M5 at H F ⊢
  refine wp_iload_n (pc := 5) dX9_rests_5 rfl ?_
  refine wp_i2l (pc := 6) dX9_rests_6 ?_
  refine wp_lconst (pc := 7) dX9_rests_7 rfl ?_
  refine wp_ldc2 (pc := 8) dX9_rests_8 kc_X9_224 ?_
  refine wf_callSi (pc := 11) dX9_rests_11 cl_X9_72 (c_inR 0 99999 rfl (by decide)) rfl rfl (Nat.le_of_ble_eq_true rfl) (by decide) ⟨Nat.le_refl _, Nat.le_refl _⟩ (fun r11 M11 q11 => ?_)
  rw [q11.1, q11.2]
  refine wp_if_eq (pc := 14) 27 dX9_rests_14 (by decide) (fun h14 => ?_) (fun h14 => ?_)
  · have h14 := b2i_0 h14
    refine wp_bipush (pc := 27) (x := (-2)) dX9_rests_27 bp_m2 ?_
    refine wf_iret (pc := 29) dX9_rests_29 rfl ?_
    unfold oRests; rw [if_neg (by rintro ⟨q1, q2⟩; first | (rw [h14] at q1; cases q1; done) | (rw [h24] at q2; cases q2; done))]
    exact ⟨rfl, H, F⟩
  · have h14 := b2i_1 h14
    obtain ⟨r, -, hr, ex⟩ := rg_of h14 (by decide) (by decide)
    subst ex
    refine wp_iload_n (pc := 17) dX9_rests_17 rfl ?_
    refine wp_i2l (pc := 18) dX9_rests_18 ?_
    refine wp_lconst (pc := 19) dX9_rests_19 rfl ?_
    refine wp_lconst (pc := 20) dX9_rests_20 rfl ?_
    refine wf_callSi (pc := 21) dX9_rests_21 cl_X9_72 (c_inR 0 1 rfl (by decide)) rfl rfl (Nat.le_of_ble_eq_true rfl) (by decide) ⟨Nat.le_refl _, Nat.le_refl _⟩ (fun r21 M21 q21 => ?_)
    rw [q21.1, q21.2]
    refine wp_if_ne (pc := 24) 30 dX9_rests_24 (by decide) (fun h24 => ?_) (fun h24 => ?_)
    · have h24 := b2i_1 h24
      obtain ⟨wh, -, hwh, ew⟩ := rg_of h24 (by decide) (by decide)
      subst ew
      refine wp_ic (pc := 30) (x := nI 0) dX9_rests_30 ic_0 ?_
      refine wp_istore_n (pc := 31) (L' := [_, _, _, _, _, _, _, _, _, _, _]) dX9_rests_31 (Nat.le_of_ble_eq_true rfl) rfl rfl ?_
      refine wp_bipush (pc := 32) (x := (-9)) dX9_rests_32 bp_m9 ?_
      refine wp_istore (pc := 34) (L' := [_, _, _, _, _, _, _, _, _, _, _]) dX9_rests_34 (Nat.le_of_ble_eq_true rfl) rfl rfl ?_
      refine wp_ic (pc := 36) (x := nI 0) dX9_rests_36 ic_0 ?_
      refine wp_istore (pc := 37) (L' := [_, _, _, _, _, _, _, _, _, _, _]) dX9_rests_37 (Nat.le_of_ble_eq_true rfl) rfl rfl ?_
      exact outer r wh M5 hr hwh H F 5 0 none none none none none (by omega) (by omega)
    · have h24 := b2i_0 h24
      refine wp_bipush (pc := 27) (x := (-2)) dX9_rests_27 bp_m2 ?_
      refine wf_iret (pc := 29) dX9_rests_29 rfl ?_
      unfold oRests; rw [if_neg (by rintro ⟨q1, q2⟩; first | (rw [h14] at q1; cases q1; done) | (rw [h24] at q2; cases q2; done))]
      exact ⟨rfl, H, F⟩
