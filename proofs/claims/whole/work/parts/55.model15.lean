theorem bit_p {s : Nat} (h : s < 5) : bit s = nI (2 ^ s) := by
  have e : ∀ s, s < 5 → bit s = nI (2 ^ s) := by decide +kernel
  exact e s h
theorem pow37 {n : Nat} (h : n ≤ 7) : 3 ^ n ≤ 2187 := Nat.pow_le_pow_right (n := 3) (by decide) h
theorem cnt_y {f : Nat → Bool} {k : Nat} (h : f k = true) : cntC f (k + 1) = cntC f k + 1 := by
  show cntC f k + (if f k = true then 1 else 0) = _
  rw [if_pos h]
theorem cnt_n {f : Nat → Bool} {k : Nat} (h : f k = false) : cntC f (k + 1) = cntC f k := by
  show cntC f k + (if f k = true then 1 else 0) = _
  rw [h]
  rfl
theorem fsC_y {f : Nat → Bool} {v : Nat → Int32} {k : Nat} (h : f k = true) (h0 : cntC f k = 0) : fsC f v (k + 1) = v k := if_pos ⟨h, h0⟩
theorem fsC_n {f : Nat → Bool} {v : Nat → Int32} {k : Nat} (h : f k = false) : fsC f v (k + 1) = fsC f v k := if_neg (fun q => by rw [h] at q; cases q.1)
theorem fsC_m {f : Nat → Bool} {v : Nat → Int32} {k : Nat} (h : ¬ cntC f k = 0) : fsC f v (k + 1) = fsC f v k := if_neg (fun q => h q.2)
theorem cR_streetsOf {l : Launch} {K : CtxT} {M : Mm} (hR : RS M) {Λ : Lw} {P : Pg} {h : Nat} (hP : MT M 158 0 P) (hO : OkP Λ P h) (hL : OkN Λ) {d n row : Nat} (hd : d < lD Λ) (hn : n ≤ 7) (hr : row < 3 ^ n) : Ci l K 1 mX9_streetsOf [.ref (K.1 + 150), .int (nI d), .int (nI n), .int (nI row)] M (fun r M' => r = nI (soN row n (sN P d) (2 ^ sN P d)) ∧ M' = M) := by
  refine ci_of (L := [some (.ref (K.1 + 150)), some (.int (nI d)), some (.int (nI n)), some (.int (nI row)), none, none, none, none]) (by decide +kernel) (Nat.le_of_ble_eq_true rfl) rfl rfl (fun E => ?_)
  have hD := hL.1
  have hr2 := Nat.lt_of_lt_of_le hr (pow37 hn)
  obtain ⟨f1, f2⟩ := sN_dog hO hd
  have loop : ∀ (r a S : Nat) (z : Option Value), r ≤ n → a < 5 → soN row r a S = soN row n (sN P d) (2 ^ sN P d) → Wp E K mX9_streetsOf 1 (0, 0) 19 [some (.ref (K.1 + 150)), some (.int (nI d)), some (.int (nI n)), some (.int (nI row)), some (.int (nI a)), some (.int (nI S)), some (.int (nI r - nI 1)), z] [] 168 M 0 0 (zI E K (fun r M' => r = nI (soN row n (sN P d) (2 ^ sN P d)) ∧ M' = M)) := by
    intro r
    induction r with
    | zero =>
      intro a S z hrn ha hS
      refine wp_iload (pc := 19) dX9_streetsOf_19 rfl ?_
      refine wp_if_lt (pc := 21) 79 dX9_streetsOf_21 (by decide) (fun h21 => ?_) (fun h21 => ?_)
      · refine wp_iload (pc := 79) dX9_streetsOf_79 rfl ?_
        refine wf_iret (pc := 81) dX9_streetsOf_81 rfl ?_
        exact ⟨by rw [← hS]; rfl, rfl⟩
      · exact absurd (show nI 0 - nI 1 < 0 by decide) h21
    | succ r ih =>
      intro a S z hrn ha hS
      have hp0 : 0 < 3 ^ r := Nat.pow_pos (by decide)
      have hp1 := pow37 (n := r) (by omega)
      have hdl := Nat.div_le_self row (3 ^ r)
      rw [show nI (r + 1) - nI 1 = nI r from by rw [pk_sub (by omega), Nat.add_sub_cancel]]
      have hS : soN row r (stN a (row / 3 ^ r % 3)) (S ||| 2 ^ stN a (row / 3 ^ r % 3)) = soN row n (sN P d) (2 ^ sN P d) := hS
      have hw3 : row / 3 ^ r % 3 < 3 := Nat.mod_lt _ (by decide)
      refine wp_iload (pc := 19) dX9_streetsOf_19 rfl ?_
      refine wp_if_lt (pc := 21) 79 dX9_streetsOf_21 (by decide) (fun h21 => ?_) (fun h21 => ?_)
      · exact absurd h21 (nI_pos (by omega))
      · refine wp_iload_n (pc := 24) dX9_streetsOf_24 rfl ?_
        refine wp_ic (pc := 25) (x := nI 3) dX9_streetsOf_25 ic_3 ?_
        refine wp_iload (pc := 26) dX9_streetsOf_26 rfl ?_
        refine wf_callSi (pc := 28) dX9_streetsOf_28 cl_X9_188 (cR_power (b := 3) (n := r) (by omega)) rfl rfl (Nat.le_of_ble_eq_true rfl) (by decide) ⟨Nat.le_refl _, Nat.le_refl _⟩ (fun r28 M28 q28 => ?_)
        rw [q28.1, q28.2]
        refine wp_idivN (pc := 31) dX9_streetsOf_31 rfl rfl (by omega) hp0 (by omega) ?_
        refine wp_ic (pc := 32) (x := nI 3) dX9_streetsOf_32 ic_3 ?_
        refine wp_iremN (pc := 33) dX9_streetsOf_33 rfl rfl (by omega) (by decide) (by decide) ?_
        refine wp_istore (pc := 34) (L' := [_, _, _, _, _, _, _, _]) dX9_streetsOf_34 (Nat.le_of_ble_eq_true rfl) rfl rfl ?_
        refine wp_iload (pc := 36) dX9_streetsOf_36 rfl ?_
        refine wp_iload (pc := 38) dX9_streetsOf_38 rfl ?_
        refine wp_ic (pc := 40) (x := nI 1) dX9_streetsOf_40 ic_1 ?_
        refine wp_icmp_ne (pc := 41) 48 dX9_streetsOf_41 (by decide) (fun h41 => ?_) (fun h41 => ?_)
        · have e3 : ¬ row / 3 ^ r % 3 = 1 := fun q => h41 (by rw [q])
          refine wp_iload (pc := 48) dX9_streetsOf_48 rfl ?_
          refine wp_ic (pc := 50) (x := nI 2) dX9_streetsOf_50 ic_2 ?_
          refine wp_icmp_ne (pc := 51) 58 dX9_streetsOf_51 (by decide) (fun h51 => ?_) (fun h51 => ?_)
          · have e4 : ¬ row / 3 ^ r % 3 = 2 := fun q => h51 (by rw [q])
            have hst : (a + 0) % 5 = stN a (row / 3 ^ r % 3) := by unfold stN; rw [if_neg e4, show row / 3 ^ r % 3 = 0 by omega]
            refine wp_ic (pc := 58) (x := nI 0) dX9_streetsOf_58 ic_0 ?_
            refine wp_iadd (pc := 59) dX9_streetsOf_59 ?_
            refine wp_ic (pc := 60) (x := nI 5) dX9_streetsOf_60 ic_5 ?_
            refine wp_iremN (pc := 61) dX9_streetsOf_61 (nI_add _ _) rfl (by omega) (by decide) (by decide) ?_
            rw [hst]
            refine wp_istore (pc := 62) (L' := [_, _, _, _, _, _, _, _]) dX9_streetsOf_62 (Nat.le_of_ble_eq_true rfl) rfl rfl ?_
            refine wp_iload (pc := 64) dX9_streetsOf_64 rfl ?_
            refine wp_ic (pc := 66) (x := nI 1) dX9_streetsOf_66 ic_1 ?_
            refine wp_iload (pc := 67) dX9_streetsOf_67 rfl ?_
            refine wp_ishl (pc := 69) dX9_streetsOf_69 ?_
            refine wp_ior (pc := 70) dX9_streetsOf_70 ?_
            rw [or_bit (stN_lt5 _ _)]
            refine wp_istore (pc := 71) (L' := [_, _, _, _, _, _, _, _]) dX9_streetsOf_71 (Nat.le_of_ble_eq_true rfl) rfl rfl ?_
            refine wp_iinc (pc := 73) (L' := [_, _, _, _, _, _, _, _]) dX9_streetsOf_73 rfl rfl rfl ?_
            refine wp_goto (pc := 76) 19 dX9_streetsOf_76 (by decide) ?_
            rw [m1_eq]
            exact ih _ _ _ (by omega) (stN_lt5 _ _) hS
          · have e4 : row / 3 ^ r % 3 = 2 := (nI_eq (by omega) (by decide)).mp h51
            have hst : (a + 4) % 5 = stN a (row / 3 ^ r % 3) := by unfold stN; rw [if_pos e4]
            refine wp_ic (pc := 54) (x := nI 4) dX9_streetsOf_54 ic_4 ?_
            refine wp_goto (pc := 55) 59 dX9_streetsOf_55 (by decide) ?_
            refine wp_iadd (pc := 59) dX9_streetsOf_59 ?_
            refine wp_ic (pc := 60) (x := nI 5) dX9_streetsOf_60 ic_5 ?_
            refine wp_iremN (pc := 61) dX9_streetsOf_61 (nI_add _ _) rfl (by omega) (by decide) (by decide) ?_
            rw [hst]
            refine wp_istore (pc := 62) (L' := [_, _, _, _, _, _, _, _]) dX9_streetsOf_62 (Nat.le_of_ble_eq_true rfl) rfl rfl ?_
            refine wp_iload (pc := 64) dX9_streetsOf_64 rfl ?_
            refine wp_ic (pc := 66) (x := nI 1) dX9_streetsOf_66 ic_1 ?_
            refine wp_iload (pc := 67) dX9_streetsOf_67 rfl ?_
            refine wp_ishl (pc := 69) dX9_streetsOf_69 ?_
            refine wp_ior (pc := 70) dX9_streetsOf_70 ?_
            rw [or_bit (stN_lt5 _ _)]
            refine wp_istore (pc := 71) (L' := [_, _, _, _, _, _, _, _]) dX9_streetsOf_71 (Nat.le_of_ble_eq_true rfl) rfl rfl ?_
            refine wp_iinc (pc := 73) (L' := [_, _, _, _, _, _, _, _]) dX9_streetsOf_73 rfl rfl rfl ?_
            refine wp_goto (pc := 76) 19 dX9_streetsOf_76 (by decide) ?_
            rw [m1_eq]
            exact ih _ _ _ (by omega) (stN_lt5 _ _) hS
        · have e3 : row / 3 ^ r % 3 = 1 := (nI_eq (by omega) (by decide)).mp h41
          have hst : (a + 1) % 5 = stN a (row / 3 ^ r % 3) := by unfold stN; rw [e3, if_neg (by decide)]
          refine wp_ic (pc := 44) (x := nI 1) dX9_streetsOf_44 ic_1 ?_
          refine wp_goto (pc := 45) 59 dX9_streetsOf_45 (by decide) ?_
          refine wp_iadd (pc := 59) dX9_streetsOf_59 ?_
          refine wp_ic (pc := 60) (x := nI 5) dX9_streetsOf_60 ic_5 ?_
          refine wp_iremN (pc := 61) dX9_streetsOf_61 (nI_add _ _) rfl (by omega) (by decide) (by decide) ?_
          rw [hst]
          refine wp_istore (pc := 62) (L' := [_, _, _, _, _, _, _, _]) dX9_streetsOf_62 (Nat.le_of_ble_eq_true rfl) rfl rfl ?_
          refine wp_iload (pc := 64) dX9_streetsOf_64 rfl ?_
          refine wp_ic (pc := 66) (x := nI 1) dX9_streetsOf_66 ic_1 ?_
          refine wp_iload (pc := 67) dX9_streetsOf_67 rfl ?_
          refine wp_ishl (pc := 69) dX9_streetsOf_69 ?_
          refine wp_ior (pc := 70) dX9_streetsOf_70 ?_
          rw [or_bit (stN_lt5 _ _)]
          refine wp_istore (pc := 71) (L' := [_, _, _, _, _, _, _, _]) dX9_streetsOf_71 (Nat.le_of_ble_eq_true rfl) rfl rfl ?_
          refine wp_iinc (pc := 73) (L' := [_, _, _, _, _, _, _, _]) dX9_streetsOf_73 rfl rfl rfl ?_
          refine wp_goto (pc := 76) 19 dX9_streetsOf_76 (by decide) ?_
          rw [m1_eq]
          exact ih _ _ _ (by omega) (stN_lt5 _ _) hS
  refine wp_aload_n (pc := 0) dX9_streetsOf_0 rfl ?_
  refine wf_getR (pc := 1) dX9_streetsOf_1 fl_X9_35 lk_150 (hR 150 16 158 rfl) ?_
  refine wp_iload_n (pc := 4) dX9_streetsOf_4 rfl ?_
  refine wf_iald (pc := 5) (j := d) dX9_streetsOf_5 lk_158 rfl (by omega) ?_
  rw [show M.1 158 d = nI (sN P d) from (hP.at (by omega)).trans f1]
  refine wp_istore (pc := 6) (L' := [_, _, _, _, _, _, _, _]) dX9_streetsOf_6 (Nat.le_of_ble_eq_true rfl) rfl rfl ?_
  refine wp_ic (pc := 8) (x := nI 1) dX9_streetsOf_8 ic_1 ?_
  refine wp_iload (pc := 9) dX9_streetsOf_9 rfl ?_
  refine wp_ishl (pc := 11) dX9_streetsOf_11 ?_
  rw [show nI 1 <<< (nI (sN P d) &&& 31) = nI (2 ^ sN P d) from bit_p f2]
  refine wp_istore (pc := 12) (L' := [_, _, _, _, _, _, _, _]) dX9_streetsOf_12 (Nat.le_of_ble_eq_true rfl) rfl rfl ?_
  refine wp_iload_n (pc := 14) dX9_streetsOf_14 rfl ?_
  refine wp_ic (pc := 15) (x := nI 1) dX9_streetsOf_15 ic_1 ?_
  refine wp_isub (pc := 16) dX9_streetsOf_16 ?_
  refine wp_istore (pc := 17) (L' := [_, _, _, _, _, _, _, _]) dX9_streetsOf_17 (Nat.le_of_ble_eq_true rfl) rfl rfl ?_
  exact loop n _ _ _ (Nat.le_refl _) f2 rfl
theorem cm_routes {l : Launch} {K : CtxT} {M : Mm} {s : Sv} {B : Nat} (H : XM M s) (V : OkV B s) (hB : B ≤ 9999) {y x g w : Int32} : Ci l K 3 mX9_routes [.ref (K.1 + 150), .int y, .int x, .int g, .int w] M (fun r M' => r = oRoutes s y x g w ∧ XM M' s ∧ Fm M M') := by
  refine ci_of (L := [some (.ref (K.1 + 150)), some (.int y), some (.int x), some (.int g), some (.int w), none, none, none, none]) (by decide +kernel) (Nat.le_of_ble_eq_true rfl) rfl rfl (fun E => ?_)
  have hh := V.h
  have inner : ∀ (d n g w row c : Nat) (M2 : Mm), n ≤ 7 → row < 3 ^ n → (∀ z, Wp E K mX9_routes 3 (0, 0) 135 [some (.ref (K.1 + 150)), some (.int (nI d)), some (.int (nI n)), some (.int (nI g)), some (.int (nI w)), some (.int (nI c)), some (.int (nI row)), some (.int (nI (dvN row n 0))), z] [] 168 M2 0 0 (zI E K (fun r M' => r = oRoutes s (nI d) (nI n) (nI g) (nI w) ∧ XM M' s ∧ Fm M M'))) → ∀ (r v : Nat), r ≤ n → dvN row r v = dvN row n 0 → Wp E K mX9_routes 3 (0, 0) 105 [some (.ref (K.1 + 150)), some (.int (nI d)), some (.int (nI n)), some (.int (nI g)), some (.int (nI w)), some (.int (nI c)), some (.int (nI row)), some (.int (nI v)), some (.int (nI r - nI 1))] [] 168 M2 0 0 (zI E K (fun r M' => r = oRoutes s (nI d) (nI n) (nI g) (nI w) ∧ XM M' s ∧ Fm M M')) := by
    intro d n g w row c M2 hn hr cont r
    have hr2 := Nat.lt_of_lt_of_le hr (pow37 hn)
    induction r with
    | zero =>
      intro v hrn hv
      have hv : v = dvN row n 0 := hv
      refine wp_iload (pc := 105) dX9_routes_105 rfl ?_
      refine wp_if_lt (pc := 107) 135 dX9_routes_107 (by decide) (fun h107 => ?_) (fun h107 => ?_)
      · rw [hv]
        exact cont _
      · exact absurd (show nI 0 - nI 1 < 0 by decide) h107
    | succ r ih =>
      intro v hrn hv
      have hp0 : 0 < 3 ^ r := Nat.pow_pos (by decide)
      have hp1 := pow37 (n := r) (by omega)
      have hdl := Nat.div_le_self row (3 ^ r)
      rw [show nI (r + 1) - nI 1 = nI r from by rw [pk_sub (by omega), Nat.add_sub_cancel]]
      have hv : dvN row r (10 * v + row / 3 ^ r % 3) = dvN row n 0 := hv
      refine wp_iload (pc := 105) dX9_routes_105 rfl ?_
      refine wp_if_lt (pc := 107) 135 dX9_routes_107 (by decide) (fun h107 => ?_) (fun h107 => ?_)
      · exact absurd h107 (nI_pos (by omega))
      · refine wp_bipush (pc := 110) (x := nI 10) dX9_routes_110 bp_10 ?_
        refine wp_iload (pc := 112) dX9_routes_112 rfl ?_
        refine wp_imul (pc := 114) dX9_routes_114 ?_
        refine wp_iload (pc := 115) dX9_routes_115 rfl ?_
        refine wp_ic (pc := 117) (x := nI 3) dX9_routes_117 ic_3 ?_
        refine wp_iload (pc := 118) dX9_routes_118 rfl ?_
        refine wf_callSi (pc := 120) dX9_routes_120 cl_X9_188 (cR_power (b := 3) (n := r) (by omega)) rfl rfl (Nat.le_of_ble_eq_true rfl) (by decide) ⟨Nat.le_refl _, Nat.le_refl _⟩ (fun r120 M120 q120 => ?_)
        rw [q120.1, q120.2]
        refine wp_idivN (pc := 123) dX9_routes_123 rfl rfl (by omega) hp0 (by omega) ?_
        refine wp_ic (pc := 124) (x := nI 3) dX9_routes_124 ic_3 ?_
        refine wp_iremN (pc := 125) dX9_routes_125 rfl rfl (by omega) (by decide) (by decide) ?_
        refine wp_iadd (pc := 126) dX9_routes_126 ?_
        refine wp_top (nI (10 * v + row / 3 ^ r % 3)) (by rw [pk_mul, nI_add]) ?_
        refine wp_istore (pc := 127) (L' := [_, _, _, _, _, _, _, _, _]) dX9_routes_127 (Nat.le_of_ble_eq_true rfl) rfl rfl ?_
        refine wp_iinc (pc := 129) (L' := [_, _, _, _, _, _, _, _, _]) dX9_routes_129 rfl rfl rfl ?_
        refine wp_goto (pc := 132) 105 dX9_routes_132 (by decide) ?_
        rw [m1_eq]
        exact ih _ (by omega) hv
  have loop : ∀ (d n g w : Nat), d < lD s.Λ → 1 ≤ n → n ≤ 7 → g < 5 → w ≤ 1 → ∀ (q row : Nat) (M1 : Mm) (z1 z2 : Option Value), q = 3 ^ n - row → row ≤ 3 ^ n → XM M1 s → Fm M M1 → M1.1 150 30 = fsC (gdB s.Λ s.P s.h d n g) (fun row => nI (dvN row n 0)) row → Wp E K mX9_routes 3 (0, 0) 65 [some (.ref (K.1 + 150)), some (.int (nI d)), some (.int (nI n)), some (.int (nI g)), some (.int (nI w)), some (.int (nI (cntC (gdB s.Λ s.P s.h d n g) row))), some (.int (nI row)), z1, z2] [] 168 M1 0 0 (zI E K (fun r M' => r = oRoutes s (nI d) (nI n) (nI g) (nI w) ∧ XM M' s ∧ Fm M M')) := by
    intro d n g w hd hn1 hn hg hw q
    have h37 := pow37 hn
    induction q with
    | zero =>
      intro row M1 z1 z2 hq hrow H F hf
      refine wp_iload (pc := 65) dX9_routes_65 rfl ?_
      refine wp_ic (pc := 67) (x := nI 3) dX9_routes_67 ic_3 ?_
      refine wp_iload_n (pc := 68) dX9_routes_68 rfl ?_
      refine wf_callSi (pc := 69) dX9_routes_69 cl_X9_188 (cR_power (b := 3) (n := n) (by omega)) rfl rfl (Nat.le_of_ble_eq_true rfl) (by decide) ⟨Nat.le_refl _, Nat.le_refl _⟩ (fun r69 M69 q69 => ?_)
      rw [q69.1, q69.2]
      refine wp_icmp_ge (pc := 72) 162 dX9_routes_72 (by decide) (fun h72 => ?_) (fun h72 => ?_)
      · refine wp_iload (pc := 162) dX9_routes_162 rfl ?_
        refine wp_if_ne (pc := 164) 172 dX9_routes_164 (by decide) (fun h164 => ?_) (fun h164 => ?_)
        · have er : row = 3 ^ n := by omega
          subst er
          unfold oRoutes
          rw [if_pos (inD_nI (by have := V.l.1; omega) hd), if_pos ⟨rg_y (nI_nlt hn1 (by omega)) (nI_nlt hn (by omega)), inD_nI (by decide) hg, rg_y (nI_nlt (Nat.zero_le _) (by omega)) (nI_nlt hw (by omega))⟩, nI_cl (by have := V.l.1; omega), nI_cl (by omega), nI_cl (by omega), nI_cl (by omega), ← routes_eq V hd hg (by omega)]
          rw [if_neg (fun q => h164 (by rw [q]; rfl))]
          refine wp_aload_n (pc := 172) dX9_routes_172 rfl ?_
          refine wf_getI (pc := 173) dX9_routes_173 fl_X9_195 lk_150 ?_
          try rw [hf]
          refine wf_iret (pc := 176) dX9_routes_176 rfl ?_
          exact ⟨rfl, H, F⟩
        · have er : row = 3 ^ n := by omega
          subst er
          unfold oRoutes
          rw [if_pos (inD_nI (by have := V.l.1; omega) hd), if_pos ⟨rg_y (nI_nlt hn1 (by omega)) (nI_nlt hn (by omega)), inD_nI (by decide) hg, rg_y (nI_nlt (Nat.zero_le _) (by omega)) (nI_nlt hw (by omega))⟩, nI_cl (by have := V.l.1; omega), nI_cl (by omega), nI_cl (by omega), nI_cl (by omega), ← routes_eq V hd hg (by omega)]
          rw [if_pos ((nI_eq (by omega) (by decide)).mp h164)]
          refine wp_iload (pc := 167) dX9_routes_167 rfl ?_
          refine wp_goto (pc := 169) 176 dX9_routes_169 (by decide) ?_
          try rw [hf]
          refine wf_iret (pc := 176) dX9_routes_176 rfl ?_
          exact ⟨rfl, H, F⟩
      · exact absurd (nI_le (by omega) (by omega)) h72
    | succ q ih =>
      intro row M1 z1 z2 hq hrow H F hf
      have hc := cntC_le (gdB s.Λ s.P s.h d n g) row
      have hD := V.l.1
      refine wp_iload (pc := 65) dX9_routes_65 rfl ?_
      refine wp_ic (pc := 67) (x := nI 3) dX9_routes_67 ic_3 ?_
      refine wp_iload_n (pc := 68) dX9_routes_68 rfl ?_
      refine wf_callSi (pc := 69) dX9_routes_69 cl_X9_188 (cR_power (b := 3) (n := n) (by omega)) rfl rfl (Nat.le_of_ble_eq_true rfl) (by decide) ⟨Nat.le_refl _, Nat.le_refl _⟩ (fun r69 M69 q69 => ?_)
      rw [q69.1, q69.2]
      refine wp_icmp_ge (pc := 72) 162 dX9_routes_72 (by decide) (fun h72 => ?_) (fun h72 => ?_)
      · exact absurd h72 (nI_ge (by omega) (by omega))
      · refine wp_aload_n (pc := 75) dX9_routes_75 rfl ?_
        refine wp_iload_n (pc := 76) dX9_routes_76 rfl ?_
        refine wp_iload_n (pc := 77) dX9_routes_77 rfl ?_
        refine wp_iload (pc := 78) dX9_routes_78 rfl ?_
        refine wp_ic (pc := 80) (x := nI 0) dX9_routes_80 ic_0 ?_
        refine wp_top (b2i false) (by decide) ?_
        refine wf_callVi (pc := 81) dX9_routes_81 cl_X9_198 (cR_goes (Λ := s.Λ) (u := false) H.r V.l.N H.w H.p V.p (by omega) hd hn (by omega)) lk_150 rfl rfl rfl rfl (Nat.le_of_ble_eq_true rfl) (by decide) ⟨Nat.le_refl _, Nat.le_refl _⟩ (fun r81 M81 q81 => ?_)
        rw [q81.1]
        have F := F.tr (q81.2.2.fm (by decide))
        have H := H.scr q81.2.2 (by omega)
        have ht := q81.2.1
        have hf := (q81.2.2.2 150 (by omega) 30).trans hf
        refine wp_if_eq (pc := 84) 156 dX9_routes_84 (by decide) (fun h84 => ?_) (fun h84 => ?_)
        · have h84 := b2i_0 h84
          have ef : gdB s.Λ s.P s.h d n g row = false := by unfold gdB; rw [h84]; rfl
          refine wp_iinc1 (pc := 156) (L' := [_, _, _, _, _, _, _, _, _]) dX9_routes_156 rfl rfl rfl ?_
          refine wp_goto (pc := 159) 65 dX9_routes_159 (by decide) ?_
          have := ih (row + 1) M81 z1 z2 (by omega) (by omega) H F (by rw [fsC_n ef]; exact hf)
          rw [cnt_n ef] at this
          exact this
        · have h84 := b2i_1 h84
          refine wp_aload_n (pc := 87) dX9_routes_87 rfl ?_
          refine wf_getR (pc := 88) dX9_routes_88 fl_X9_38 lk_150 (H.r 150 17 159 rfl) ?_
          refine wp_iload_n (pc := 91) dX9_routes_91 rfl ?_
          refine wf_iald (pc := 92) (j := d) dX9_routes_92 lk_159 rfl (by omega) ?_
          rw [show M81.1 159 d = (gsS s.Λ s.P s.h d n row false n).2 d from ht.at (by omega)]
          refine wp_iload_n (pc := 93) dX9_routes_93 rfl ?_
          refine wp_icmp_ne (pc := 94) 156 dX9_routes_94 (by decide) (fun h94 => ?_) (fun h94 => ?_)
          · have ef : gdB s.Λ s.P s.h d n g row = false := by unfold gdB; rw [decide_eq_false h94, Bool.and_false]
            refine wp_iinc1 (pc := 156) (L' := [_, _, _, _, _, _, _, _, _]) dX9_routes_156 rfl rfl rfl ?_
            refine wp_goto (pc := 159) 65 dX9_routes_159 (by decide) ?_
            have := ih (row + 1) M81 z1 z2 (by omega) (by omega) H F (by rw [fsC_n ef]; exact hf)
            rw [cnt_n ef] at this
            exact this
          · have ef : gdB s.Λ s.P s.h d n g row = true := by unfold gdB; rw [h84, decide_eq_true h94]; rfl
            refine wp_ic (pc := 97) (x := nI 0) dX9_routes_97 ic_0 ?_
            refine wp_istore (pc := 98) (L' := [_, _, _, _, _, _, _, _, _]) dX9_routes_98 (Nat.le_of_ble_eq_true rfl) rfl rfl ?_
            refine wp_iload_n (pc := 100) dX9_routes_100 rfl ?_
            refine wp_ic (pc := 101) (x := nI 1) dX9_routes_101 ic_1 ?_
            refine wp_isub (pc := 102) dX9_routes_102 ?_
            refine wp_istore (pc := 103) (L' := [_, _, _, _, _, _, _, _, _]) dX9_routes_103 (Nat.le_of_ble_eq_true rfl) rfl rfl ?_
            refine inner d n g w row _ M81 hn (by omega) (fun z => ?_) n 0 (Nat.le_refl _) rfl
            refine wp_aload_n (pc := 135) dX9_routes_135 rfl ?_
            refine wp_iload (pc := 136) dX9_routes_136 rfl ?_
            refine wp_if_ne (pc := 138) 146 dX9_routes_138 (by decide) (fun h138 => ?_) (fun h138 => ?_)
            · have hc0 : ¬ cntC (gdB s.Λ s.P s.h d n g) row = 0 := fun q => h138 (by rw [q]; rfl)
              refine wp_aload_n (pc := 146) dX9_routes_146 rfl ?_
              refine wf_getI (pc := 147) dX9_routes_147 fl_X9_195 lk_150 ?_
              refine wf_putI (pc := 150) dX9_routes_150 fl_X9_195 lk_150 ?_
              refine wp_iinc1 (pc := 153) (L' := [_, _, _, _, _, _, _, _, _]) dX9_routes_153 rfl rfl rfl ?_
              refine wp_iinc1 (pc := 156) (L' := [_, _, _, _, _, _, _, _, _]) dX9_routes_156 rfl rfl rfl ?_
              refine wp_goto (pc := 159) 65 dX9_routes_159 (by decide) ?_
              rw [← cnt_y ef]
              first | (exact ih (row + 1) _ _ _ (by omega) (by omega) (H.f (k := 30) _ (by decide)) (F.tr (Fm.w (by decide))) (by rw [wI_at, fsC_y ef hc0]); done) | exact ih (row + 1) _ _ _ (by omega) (by omega) (H.f (k := 30) _ (by decide)) (F.tr (Fm.w (by decide))) (by rw [wI_at, fsC_m hc0]; exact hf)
            · have hc0 : cntC (gdB s.Λ s.P s.h d n g) row = 0 := (nI_eq (by omega) (by decide)).mp h138
              refine wp_iload (pc := 141) dX9_routes_141 rfl ?_
              refine wp_goto (pc := 143) 150 dX9_routes_143 (by decide) ?_
              refine wf_putI (pc := 150) dX9_routes_150 fl_X9_195 lk_150 ?_
              refine wp_iinc1 (pc := 153) (L' := [_, _, _, _, _, _, _, _, _]) dX9_routes_153 rfl rfl rfl ?_
              refine wp_iinc1 (pc := 156) (L' := [_, _, _, _, _, _, _, _, _]) dX9_routes_156 rfl rfl rfl ?_
              refine wp_goto (pc := 159) 65 dX9_routes_159 (by decide) ?_
              rw [← cnt_y ef]
              first | (exact ih (row + 1) _ _ _ (by omega) (by omega) (H.f (k := 30) _ (by decide)) (F.tr (Fm.w (by decide))) (by rw [wI_at, fsC_y ef hc0]); done) | exact ih (row + 1) _ _ _ (by omega) (by omega) (H.f (k := 30) _ (by decide)) (F.tr (Fm.w (by decide))) (by rw [wI_at, fsC_m hc0]; exact hf)
  refine wp_aload_n (pc := 0) dX9_routes_0 rfl ?_
  refine wp_ic (pc := 1) (x := nI 0) dX9_routes_1 ic_0 ?_
  refine wf_putI (pc := 2) dX9_routes_2 fl_X9_66 lk_150 ?_
  have F : Fm M (wI M 150 0 (nI 0)) := Fm.w (by decide)
  have H := H.f (k := 0) (nI 0) (by decide)
  generalize wI M 150 0 (nI 0) = M5 at H F ⊢
  refine wp_aload_n (pc := 5) dX9_routes_5 rfl ?_
  refine wp_iload_n (pc := 6) dX9_routes_6 rfl ?_
  refine wf_callVi (pc := 7) dX9_routes_7 cl_X9_153 (c_noDog H.r V.l.N H.w) lk_150 rfl rfl rfl rfl (Nat.le_of_ble_eq_true rfl) (by decide) ⟨Nat.le_refl _, Nat.le_refl _⟩ (fun r7 M7 q7 => ?_)
  rw [q7.1, q7.2]
  refine wp_if_eq (pc := 10) 15 dX9_routes_10 (by decide) (fun h10 => ?_) (fun h10 => ?_)
  · have h10 := b2i_0 h10
    have h10 : inD y (lD s.Λ) = true := by simpa using h10
    obtain ⟨d, hd, ed⟩ := inD_of (by assumption) (show lD s.Λ < 2 ^ 31 by have := V.l.N.1; omega)
    have hd4 : d < 4 := Nat.lt_of_lt_of_le hd V.l.N.1
    subst ed
    refine wp_iload_n (pc := 15) dX9_routes_15 rfl ?_
    refine wp_i2l (pc := 16) dX9_routes_16 ?_
    refine wp_lconst (pc := 17) dX9_routes_17 rfl ?_
    refine wp_ldc2 (pc := 18) dX9_routes_18 kc_X9_191 ?_
    refine wf_callSi (pc := 21) dX9_routes_21 cl_X9_72 (c_inR 1 7 rfl (by decide)) rfl rfl (Nat.le_of_ble_eq_true rfl) (by decide) ⟨Nat.le_refl _, Nat.le_refl _⟩ (fun r21 M21 q21 => ?_)
    rw [q21.1, q21.2]
    refine wp_if_eq (pc := 24) 50 dX9_routes_24 (by decide) (fun h24 => ?_) (fun h24 => ?_)
    · have h24 := b2i_0 h24
      refine wp_bipush (pc := 50) (x := (-2)) dX9_routes_50 bp_m2 ?_
      refine wf_iret (pc := 52) dX9_routes_52 rfl ?_
      unfold oRoutes; rw [if_pos h10, if_neg (by rintro ⟨q1, q2, q3⟩; first | (rw [h24] at q1; cases q1; done) | (rw [h36] at q2; cases q2; done) | (rw [h47] at q3; cases q3; done))]
      exact ⟨rfl, H, F⟩
    · have h24 := b2i_1 h24
      obtain ⟨n, hn1, hn, ex⟩ := rg_of h24 (by decide) (by decide)
      subst ex
      refine wp_iload_n (pc := 27) dX9_routes_27 rfl ?_
      refine wp_i2l (pc := 28) dX9_routes_28 ?_
      refine wp_lconst (pc := 29) dX9_routes_29 rfl ?_
      refine wp_ldc2 (pc := 30) dX9_routes_30 kc_X9_193 ?_
      refine wf_callSi (pc := 33) dX9_routes_33 cl_X9_72 (c_inR 0 4 rfl (by decide)) rfl rfl (Nat.le_of_ble_eq_true rfl) (by decide) ⟨Nat.le_refl _, Nat.le_refl _⟩ (fun r33 M33 q33 => ?_)
      rw [q33.1, q33.2, rg_inD (by decide)]
      refine wp_if_eq (pc := 36) 50 dX9_routes_36 (by decide) (fun h36 => ?_) (fun h36 => ?_)
      · have h36 := b2i_0 h36
        have h36 : inD g 5 = false := h36
        refine wp_bipush (pc := 50) (x := (-2)) dX9_routes_50 bp_m2 ?_
        refine wf_iret (pc := 52) dX9_routes_52 rfl ?_
        unfold oRoutes; rw [if_pos h10, if_neg (by rintro ⟨q1, q2, q3⟩; first | (rw [h24] at q1; cases q1; done) | (rw [h36] at q2; cases q2; done) | (rw [h47] at q3; cases q3; done))]
        exact ⟨rfl, H, F⟩
      · have h36 := b2i_1 h36
        have h36 : inD g 5 = true := h36
        obtain ⟨g0, hg, eg⟩ := inD_of h36 (by decide)
        subst eg
        refine wp_iload (pc := 39) dX9_routes_39 rfl ?_
        refine wp_i2l (pc := 41) dX9_routes_41 ?_
        refine wp_lconst (pc := 42) dX9_routes_42 rfl ?_
        refine wp_lconst (pc := 43) dX9_routes_43 rfl ?_
        refine wf_callSi (pc := 44) dX9_routes_44 cl_X9_72 (c_inR 0 1 rfl (by decide)) rfl rfl (Nat.le_of_ble_eq_true rfl) (by decide) ⟨Nat.le_refl _, Nat.le_refl _⟩ (fun r44 M44 q44 => ?_)
        rw [q44.1, q44.2]
        refine wp_if_ne (pc := 47) 53 dX9_routes_47 (by decide) (fun h47 => ?_) (fun h47 => ?_)
        · have h47 := b2i_1 h47
          obtain ⟨w0, -, hw, ew⟩ := rg_of h47 (by decide) (by decide)
          subst ew
          refine wp_ic (pc := 53) (x := nI 0) dX9_routes_53 ic_0 ?_
          refine wp_istore (pc := 54) (L' := [_, _, _, _, _, _, _, _, _]) dX9_routes_54 (Nat.le_of_ble_eq_true rfl) rfl rfl ?_
          refine wp_aload_n (pc := 56) dX9_routes_56 rfl ?_
          refine wp_bipush (pc := 57) (x := (-9)) dX9_routes_57 bp_m9 ?_
          refine wf_putI (pc := 59) dX9_routes_59 fl_X9_195 lk_150 ?_
          have F := F.tr (Fm.w (M := M5) (a := 150) (k := 30) (x := no9) (by decide))
          have H := H.f (k := 30) no9 (by decide)
          refine wp_ic (pc := 62) (x := nI 0) dX9_routes_62 ic_0 ?_
          refine wp_istore (pc := 63) (L' := [_, _, _, _, _, _, _, _, _]) dX9_routes_63 (Nat.le_of_ble_eq_true rfl) rfl rfl ?_
          exact loop d n g0 w0 hd hn1 hn hg hw (3 ^ n) 0 (wI M5 150 30 no9) none none (Nat.sub_zero _).symm (Nat.zero_le _) H F (wI_at _ _ _ _)
        · have h47 := b2i_0 h47
          refine wp_bipush (pc := 50) (x := (-2)) dX9_routes_50 bp_m2 ?_
          refine wf_iret (pc := 52) dX9_routes_52 rfl ?_
          unfold oRoutes; rw [if_pos h10, if_neg (by rintro ⟨q1, q2, q3⟩; first | (rw [h24] at q1; cases q1; done) | (rw [h36] at q2; cases q2; done) | (rw [h47] at q3; cases q3; done))]
          exact ⟨rfl, H, F⟩
  · have h10 := b2i_1 h10
    have h10 : inD y (lD s.Λ) = false := by simpa using h10
    refine wp_ic (pc := 13) (x := (-1)) dX9_routes_13 ic_m1 ?_
    refine wf_iret (pc := 14) dX9_routes_14 rfl ?_
    unfold oRoutes; rw [if_neg (by rw [h10]; decide)]
    exact ⟨rfl, H, F⟩
theorem cm_aired {l : Launch} {K : CtxT} {M : Mm} {s : Sv} {B : Nat} (H : XM M s) (V : OkV B s) (hB : B ≤ 9999) {y : Int32} : Ci l K 3 mX9_aired [.ref (K.1 + 150), .int y] M (fun r M' => rAired s y r ∧ XM M' s ∧ Fm M M') := by
  refine ci_of (L := [some (.ref (K.1 + 150)), some (.int y), none, none]) (by decide +kernel) (Nat.le_of_ble_eq_true rfl) rfl rfl (fun E => ?_)
  have hh := V.h
  have hD := V.l.1
  have inner : ∀ (d n : Nat), d < lD s.Λ → n ≤ 7 → (∀ m, m < n → ∀ row, row < 3 ^ m → arB s.Λ s.P s.h d m row = false) → (∀ M1 z, XM M1 s → Fm M M1 → (∀ row, row < 3 ^ n → arB s.Λ s.P s.h d n row = false) → Wp E K mX9_aired 3 (0, 0) 65 [some (.ref (K.1 + 150)), some (.int (nI d)), some (.int (nI n)), z] [] 168 M1 0 0 (zI E K (fun r M' => rAired s (nI d) r ∧ XM M' s ∧ Fm M M'))) → ∀ (q row : Nat) (M1 : Mm), q = 3 ^ n - row → row ≤ 3 ^ n → XM M1 s → Fm M M1 → (∀ r, r < row → arB s.Λ s.P s.h d n r = false) → Wp E K mX9_aired 3 (0, 0) 25 [some (.ref (K.1 + 150)), some (.int (nI d)), some (.int (nI n)), some (.int (nI row))] [] 168 M1 0 0 (zI E K (fun r M' => rAired s (nI d) r ∧ XM M' s ∧ Fm M M')) := by
    intro d n hd hn hno cont q
    have h37 := pow37 hn
    induction q with
    | zero =>
      intro row M1 hq hrow H F hr
      refine wp_iload_n (pc := 25) dX9_aired_25 rfl ?_
      refine wp_ic (pc := 26) (x := nI 3) dX9_aired_26 ic_3 ?_
      refine wp_iload_n (pc := 27) dX9_aired_27 rfl ?_
      refine wf_callSi (pc := 28) dX9_aired_28 cl_X9_188 (cR_power (b := 3) (n := n) (by omega)) rfl rfl (Nat.le_of_ble_eq_true rfl) (by decide) ⟨Nat.le_refl _, Nat.le_refl _⟩ (fun r28 M28 q28 => ?_)
      rw [q28.1, q28.2]
      refine wp_icmp_ge (pc := 31) 65 dX9_aired_31 (by decide) (fun h31 => ?_) (fun h31 => ?_)
      · exact cont _ _ H F (fun r h => hr r (by omega))
      · exact absurd (nI_le (by omega) (by omega)) h31
    | succ q ih =>
      intro row M1 hq hrow H F hr
      refine wp_iload_n (pc := 25) dX9_aired_25 rfl ?_
      refine wp_ic (pc := 26) (x := nI 3) dX9_aired_26 ic_3 ?_
      refine wp_iload_n (pc := 27) dX9_aired_27 rfl ?_
      refine wf_callSi (pc := 28) dX9_aired_28 cl_X9_188 (cR_power (b := 3) (n := n) (by omega)) rfl rfl (Nat.le_of_ble_eq_true rfl) (by decide) ⟨Nat.le_refl _, Nat.le_refl _⟩ (fun r28 M28 q28 => ?_)
      rw [q28.1, q28.2]
      refine wp_icmp_ge (pc := 31) 65 dX9_aired_31 (by decide) (fun h31 => ?_) (fun h31 => ?_)
      · exact absurd h31 (nI_ge (by omega) (by omega))
      · refine wp_aload_n (pc := 34) dX9_aired_34 rfl ?_
        refine wp_iload_n (pc := 35) dX9_aired_35 rfl ?_
        refine wp_iload_n (pc := 36) dX9_aired_36 rfl ?_
        refine wp_iload_n (pc := 37) dX9_aired_37 rfl ?_
        refine wf_callVi (pc := 38) dX9_aired_38 cl_X9_202 (cR_streetsOf H.r H.p V.p V.l.N hd hn (by omega)) lk_150 rfl rfl rfl rfl (Nat.le_of_ble_eq_true rfl) (by decide) ⟨Nat.le_refl _, Nat.le_refl _⟩ (fun r38 M38 q38 => ?_)
        rw [q38.1, q38.2]
        have hso : (soN row n (sN s.P d) (2 ^ sN s.P d)) < 32 := by have := soN_K (row := row) (f := sN s.P d) (n := n) n (Nat.le_refl _); rw [Nat.sub_self] at this; rw [show (soN row n (sN s.P d) (2 ^ sN s.P d)) = soK (sN s.P d) n row n from this]; exact soK_lt (sN_dog V.p hd).2 n
        refine wp_bipush (pc := 41) (x := nI 31) dX9_aired_41 bp_31 ?_
        refine wp_icmp_ne (pc := 43) 59 dX9_aired_43 (by decide) (fun h43 => ?_) (fun h43 => ?_)
        · have ef : arB s.Λ s.P s.h d n row = false := by unfold arB; rw [decide_eq_false (fun q => h43 (by rw [q]))]; rfl
          have H54 := H
          have F54 := F
          refine wp_iinc1 (pc := 59) (L' := [_, _, _, _]) dX9_aired_59 rfl rfl rfl ?_
          refine wp_goto (pc := 62) 25 dX9_aired_62 (by decide) ?_
          exact ih (row + 1) _ (by omega) (by omega) H54 F54 (fun r h => by rcases Nat.lt_succ_iff_lt_or_eq.mp h with q | rfl; exact hr r q; exact ef)
        · have e31 : (soN row n (sN s.P d) (2 ^ sN s.P d)) = 31 := (nI_eq (by omega) (by decide)).mp h43
          refine wp_aload_n (pc := 46) dX9_aired_46 rfl ?_
          refine wp_iload_n (pc := 47) dX9_aired_47 rfl ?_
          refine wp_iload_n (pc := 48) dX9_aired_48 rfl ?_
          refine wp_iload_n (pc := 49) dX9_aired_49 rfl ?_
          refine wp_ic (pc := 50) (x := nI 1) dX9_aired_50 ic_1 ?_
          refine wp_top (b2i true) (by decide) ?_
          refine wf_callVi (pc := 51) dX9_aired_51 cl_X9_198 (cR_goes (Λ := s.Λ) (u := true) H.r V.l.N H.w H.p V.p (by omega) hd hn (by omega)) lk_150 rfl rfl rfl rfl (Nat.le_of_ble_eq_true rfl) (by decide) ⟨Nat.le_refl _, Nat.le_refl _⟩ (fun r51 M51 q51 => ?_)
          rw [q51.1]
          have F := F.tr (q51.2.2.fm (by decide))
          have H := H.scr q51.2.2 (by omega)
          refine wp_if_eq (pc := 54) 59 dX9_aired_54 (by decide) (fun h54 => ?_) (fun h54 => ?_)
          · have h54 := b2i_0 h54
            have ef : arB s.Λ s.P s.h d n row = false := by unfold arB; rw [h54, Bool.and_false]
            have H54 := H
            have F54 := F
            refine wp_iinc1 (pc := 59) (L' := [_, _, _, _]) dX9_aired_59 rfl rfl rfl ?_
            refine wp_goto (pc := 62) 25 dX9_aired_62 (by decide) ?_
            exact ih (row + 1) _ (by omega) (by omega) H54 F54 (fun r h => by rcases Nat.lt_succ_iff_lt_or_eq.mp h with q | rfl; exact hr r q; exact ef)
          · have h54 := b2i_1 h54
            have ef : arB s.Λ s.P s.h d n row = true := by unfold arB; rw [e31, h54]; rfl
            refine wp_iload_n (pc := 57) dX9_aired_57 rfl ?_
            refine wf_iret (pc := 58) dX9_aired_58 rfl ?_
            unfold rAired
            rw [if_pos (inD_nI (by omega) hd), nI_cl (by omega)]
            exact ⟨aired_eq V hd (Or.inl ⟨n, hn, rfl, ⟨row, by omega, ef⟩, hno⟩), H, F⟩
  have loop : ∀ d, d < lD s.Λ → ∀ (q n : Nat) (M1 : Mm) (z : Option Value), q = 8 - n → n ≤ 8 → XM M1 s → Fm M M1 → (∀ m, m < n → ∀ row, row < 3 ^ m → arB s.Λ s.P s.h d m row = false) → Wp E K mX9_aired 3 (0, 0) 17 [some (.ref (K.1 + 150)), some (.int (nI d)), some (.int (nI n)), z] [] 168 M1 0 0 (zI E K (fun r M' => rAired s (nI d) r ∧ XM M' s ∧ Fm M M')) := by
    intro d hd q
    induction q with
    | zero =>
      intro n M1 z hq hn H F hno
      refine wp_iload_n (pc := 17) dX9_aired_17 rfl ?_
      refine wp_bipush (pc := 18) (x := nI 7) dX9_aired_18 bp_7 ?_
      refine wp_icmp_gt (pc := 20) 71 dX9_aired_20 (by decide) (fun h20 => ?_) (fun h20 => ?_)
      · refine wp_bipush (pc := 71) (x := (-9)) dX9_aired_71 bp_m9 ?_
        refine wf_iret (pc := 73) dX9_aired_73 rfl ?_
        unfold rAired
        rw [if_pos (inD_nI (by omega) hd), nI_cl (by omega)]
        exact ⟨aired_eq V hd (Or.inr ⟨rfl, fun m hm => hno m (by omega)⟩), H, F⟩
      · exact absurd (show nI 7 < nI n from nI_lt (by omega) (by omega)) h20
    | succ q ih =>
      intro n M1 z hq hn H F hno
      refine wp_iload_n (pc := 17) dX9_aired_17 rfl ?_
      refine wp_bipush (pc := 18) (x := nI 7) dX9_aired_18 bp_7 ?_
      refine wp_icmp_gt (pc := 20) 71 dX9_aired_20 (by decide) (fun h20 => ?_) (fun h20 => ?_)
      · exact absurd h20 (Int32.not_lt.mpr (nI_le (show n ≤ 7 by omega) (by omega)))
      · refine wp_ic (pc := 23) (x := nI 0) dX9_aired_23 ic_0 ?_
        refine wp_istore_n (pc := 24) (L' := [_, _, _, _]) dX9_aired_24 (Nat.le_of_ble_eq_true rfl) rfl rfl ?_
        refine inner d n hd (by omega) hno (fun M2 z2 H2 F2 hr2 => ?_) (3 ^ n) 0 M1 (Nat.sub_zero _).symm (Nat.zero_le _) H F (fun r h => absurd h (Nat.not_lt_zero _))
        refine wp_iinc1 (pc := 65) (L' := [_, _, _, _]) dX9_aired_65 rfl rfl rfl ?_
        refine wp_goto (pc := 68) 17 dX9_aired_68 (by decide) ?_
        exact ih (n + 1) M2 _ (by omega) (by omega) H2 F2 (fun m h => by rcases Nat.lt_succ_iff_lt_or_eq.mp h with q | rfl; exact hno m q; exact hr2)
  refine wp_aload_n (pc := 0) dX9_aired_0 rfl ?_
  refine wp_ic (pc := 1) (x := nI 0) dX9_aired_1 ic_0 ?_
  refine wf_putI (pc := 2) dX9_aired_2 fl_X9_66 lk_150 ?_
  have F : Fm M (wI M 150 0 (nI 0)) := Fm.w (by decide)
  have H := H.f (k := 0) (nI 0) (by decide)
  generalize wI M 150 0 (nI 0) = M5 at H F ⊢
  refine wp_aload_n (pc := 5) dX9_aired_5 rfl ?_
  refine wp_iload_n (pc := 6) dX9_aired_6 rfl ?_
  refine wf_callVi (pc := 7) dX9_aired_7 cl_X9_153 (c_noDog H.r V.l.N H.w) lk_150 rfl rfl rfl rfl (Nat.le_of_ble_eq_true rfl) (by decide) ⟨Nat.le_refl _, Nat.le_refl _⟩ (fun r7 M7 q7 => ?_)
  rw [q7.1, q7.2]
  refine wp_if_eq (pc := 10) 15 dX9_aired_10 (by decide) (fun h10 => ?_) (fun h10 => ?_)
  · have h10 := b2i_0 h10
    have h10 : inD y (lD s.Λ) = true := by simpa using h10
    obtain ⟨d, hd, ed⟩ := inD_of (by assumption) (show lD s.Λ < 2 ^ 31 by have := V.l.N.1; omega)
    have hd4 : d < 4 := Nat.lt_of_lt_of_le hd V.l.N.1
    subst ed
    refine wp_ic (pc := 15) (x := nI 0) dX9_aired_15 ic_0 ?_
    refine wp_istore_n (pc := 16) (L' := [_, _, _, _]) dX9_aired_16 (Nat.le_of_ble_eq_true rfl) rfl rfl ?_
    exact loop d hd 8 0 M5 none (by omega) (by omega) H F (fun m h => absurd h (Nat.not_lt_zero _))
  · have h10 := b2i_1 h10
    have h10 : inD y (lD s.Λ) = false := by simpa using h10
    refine wp_ic (pc := 13) (x := (-1)) dX9_aired_13 ic_m1 ?_
    refine wf_iret (pc := 14) dX9_aired_14 rfl ?_
    unfold rAired; rw [if_neg (by rw [h10]; decide)]
    exact ⟨rfl, H, F⟩
