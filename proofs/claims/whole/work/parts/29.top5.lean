/-- the hours until a dog has aired every street -/
def airP (pe : Nat → Int32) (f : Nat) (rv : Int32) : Prop := (∃ k, k < 7 ∧ rv = nI (k + 1) ∧ (∃ s, s < 5 ∧ rchP pe f (k + 1) s 31) ∧ ∀ j, j < k → ¬ (∃ s, s < 5 ∧ rchP pe f (j + 1) s 31)) ∨ (rv = no9 ∧ ∀ k, k < 7 → ¬ (∃ s, s < 5 ∧ rchP pe f (k + 1) s 31))
theorem airP_uniq {pe : Nat → Int32} {f : Nat} {a b : Int32} (h1 : airP pe f a) (h2 : airP pe f b) : a = b := by
  rcases h1 with ⟨k, hk, rfl, f1, n1⟩ | ⟨rfl, n1⟩
  · rcases h2 with ⟨j, hj, rfl, f2, n2⟩ | ⟨rfl, n2⟩
    · rcases Nat.lt_trichotomy k j with q | q | q
      · exact absurd f1 (n2 k q)
      · rw [q]
      · exact absurd f2 (n1 j q)
    · exact absurd f1 (n2 k hk)
  · rcases h2 with ⟨j, hj, rfl, f2, n2⟩ | ⟨rfl, n2⟩
    · exact absurd f2 (n1 j hj)
    · rfl
def rAiredN (s : Sv) (d : Nat) (r : Int32) : Prop := if anyN (lD s.Λ) (rivB s.Λ d) = true then r = no9 else airP (perP s.Λ s.P d s.h) (sN s.P d) r
def rAired (s : Sv) (y r : Int32) : Prop := if inD y (lD s.Λ) = true then rAiredN s y.toNatClampNeg r else r = -1
theorem sN_dog {Λ : Lw} {P : Pg} {h d : Nat} (H : OkP Λ P h) (hd : d < lD Λ) : P d = nI (sN P d) ∧ sN P d < 5 := by
  obtain ⟨s, hs, e⟩ := H.2.1 d hd
  have : sN P d = s := by unfold sN; rw [e, nI_cl (by omega)]
  rw [this]
  exact ⟨e, hs⟩
def oRoutesN (s : Sv) (d n g w : Nat) : Int32 := if w = 0 then nI (cwN (perP s.Λ s.P d s.h) g n 0 (sN s.P d)) else if cwN (perP s.Λ s.P d s.h) g n 0 (sN s.P d) = 0 then no9 else nI (frN (perP s.Λ s.P d s.h) g n 0 (sN s.P d) 0)
def oRoutes (s : Sv) (y x g w : Int32) : Int32 := if inD y (lD s.Λ) = true then (if rg 1 7 x = true ∧ inD g 5 = true ∧ rg 0 1 w = true then oRoutesN s y.toNatClampNeg x.toNatClampNeg g.toNatClampNeg w.toNatClampNeg else -2) else -1
theorem c_aired {l : Launch} {K : CtxT} {M : Mm} {s : Sv} {B : Nat} (H : XI M s) (V : OkV B s) (hB : B ≤ 9999) {y : Int32} : Ci l K 4 mX8_aired [.ref (K.1 + 0), .int y] M (fun r M' => rAired s y r ∧ XI M' s ∧ Fr M M') := by
  refine ci_of (L := [some (.ref (K.1 + 0)), some (.int y)]) (by decide +kernel) (Nat.le_of_ble_eq_true rfl) rfl rfl (fun E => ?_)
  refine wp_aload_n (pc := 0) dX8_aired_0 rfl ?_
  refine wf_getR (pc := 1) dX8_aired_1 fl_X8_27 lk_0 (H.r 0 3 14 rfl) ?_
  refine wp_iload_n (pc := 4) dX8_aired_4 rfl ?_
  refine wf_callVi (pc := 5) dX8_aired_5 cl_X8_120 (c_hasDog IL_14 H.r V.l.N H.l) IL_14.1 rfl rfl rfl rfl (Nat.le_of_ble_eq_true rfl) (by decide) ⟨Nat.le_refl _, Nat.le_refl _⟩ (fun r5 M5 q5 => ?_)
  rw [q5.1, q5.2]
  refine wp_if_ne (pc := 8) 13 dX8_aired_8 (by decide) (fun h8 => ?_) (fun h8 => ?_)
  · have h8 := b2i_1 h8
    obtain ⟨d, hd, ed⟩ := inD_of (by assumption) (show lD s.Λ < 2 ^ 31 by have := V.l.N.1; omega)
    have hd4 : d < 4 := Nat.lt_of_lt_of_le hd V.l.N.1
    subst ed
    refine wp_aload_n (pc := 13) dX8_aired_13 rfl ?_
    refine wf_getR (pc := 14) dX8_aired_14 fl_X8_58 lk_0 (H.r 0 8 131 rfl) ?_
    refine wp_aload_n (pc := 17) dX8_aired_17 rfl ?_
    refine wf_getR (pc := 18) dX8_aired_18 fl_X8_27 lk_0 (H.r 0 3 14 rfl) ?_
    refine wp_aload_n (pc := 21) dX8_aired_21 rfl ?_
    refine wf_getR (pc := 22) dX8_aired_22 fl_X8_34 lk_0 (H.r 0 4 19 rfl) ?_
    refine wp_iload_n (pc := 25) dX8_aired_25 rfl ?_
    refine wf_callVv (pc := 26) dX8_aired_26 cl_X8_186 (c_ahead_look IT_19 IL_14 H.r V.l.N H.l H.p (by omega) (by omega) hd4 V.p.1 (by have := V.h; omega)) lk_131 rfl rfl rfl rfl (Nat.le_of_ble_eq_true rfl) (by decide) ⟨Nat.le_refl _, Nat.le_refl _⟩ (fun M26 q26 => ?_)
    have F : Fr M M26 := q26.1.fr (by decide)
    have H := H.scr q26.1 (by omega)
    refine wp_aload_n (pc := 29) dX8_aired_29 rfl ?_
    refine wf_getR (pc := 30) dX8_aired_30 fl_X8_27 lk_0 (H.r 0 3 14 rfl) ?_
    refine wp_iload_n (pc := 33) dX8_aired_33 rfl ?_
    refine wf_callVi (pc := 34) dX8_aired_34 cl_X8_201 (c_hasRival IL_14 H.r V.l.N H.l hd) IL_14.1 rfl rfl rfl rfl (Nat.le_of_ble_eq_true rfl) (by decide) ⟨Nat.le_refl _, Nat.le_refl _⟩ (fun r34 M34 q34 => ?_)
    rw [q34.1, q34.2]
    refine wp_if_eq (pc := 37) 45 dX8_aired_37 (by decide) (fun h37 => ?_) (fun h37 => ?_)
    · have h37 := b2i_0 h37
      obtain ⟨re, rn, hXH⟩ := H.h
      obtain ⟨g1, g2⟩ := sN_dog V.p hd
      refine wp_aload_n (pc := 45) dX8_aired_45 rfl ?_
      refine wf_getR (pc := 46) dX8_aired_46 fl_X8_58 lk_0 (H.r 0 8 131 rfl) ?_
      refine wp_aload_n (pc := 49) dX8_aired_49 rfl ?_
      refine wf_getR (pc := 50) dX8_aired_50 fl_X8_34 lk_0 (H.r 0 4 19 rfl) ?_
      refine wf_getR (pc := 53) dX8_aired_53 fl_X8_124 IT_19.1 (H.r 19 2 20 rfl) ?_
      refine wp_iload_n (pc := 56) dX8_aired_56 rfl ?_
      refine wf_iald (pc := 57) (j := d) dX8_aired_57 IT_19.2.1 rfl (by omega) ?_
      rw [(H.p.2.2.1 d hd).1, g1]
      refine wf_callVi (pc := 58) dX8_aired_58 cl_X8_204 (c_fewestHours H.r q26.2 g2 hXH) lk_131 rfl rfl rfl rfl (Nat.le_of_ble_eq_true rfl) (by decide) ⟨Nat.le_refl _, Nat.le_refl _⟩ (fun r58 M58 q58 => ?_)
      have F := F.tr (q58.2.1.fr q58.2.2.1.1 (by decide))
      have H := H.few q58.2.1 q58.2.2.1 q58.2.2.2
      refine wf_iret (pc := 61) dX8_aired_61 rfl ?_
      unfold rAired rAiredN; rw [if_pos h8, nI_cl (by omega)]
      first | (rw [if_pos h37]; exact ⟨rfl, H, F⟩) | (rw [if_neg (by rw [h37]; decide)]; exact ⟨q58.1, H, F⟩)
    · have h37 := b2i_1 h37
      refine wp_bipush (pc := 40) (x := (-9)) dX8_aired_40 bp_m9 ?_
      refine wp_goto (pc := 42) 61 dX8_aired_42 (by decide) ?_
      refine wf_iret (pc := 61) dX8_aired_61 rfl ?_
      unfold rAired rAiredN; rw [if_pos h8, nI_cl (by omega)]
      first | (rw [if_pos h37]; exact ⟨rfl, H, F⟩) | (rw [if_neg (by rw [h37]; decide)]; exact ⟨q58.1, H, F⟩)
  · have h8 := b2i_0 h8
    refine wp_ic (pc := 11) (x := (-1)) dX8_aired_11 ic_m1 ?_
    refine wf_iret (pc := 12) dX8_aired_12 rfl ?_
    unfold rAired; rw [if_neg (by rw [h8]; decide)]
    exact ⟨rfl, H, Fr.rf⟩
theorem c_routes {l : Launch} {K : CtxT} {M : Mm} {s : Sv} {B : Nat} (H : XI M s) (V : OkV B s) (hB : B ≤ 9999) {y x g w : Int32} : Ci l K 4 mX8_routes [.ref (K.1 + 0), .int y, .int x, .int g, .int w] M (fun r M' => r = oRoutes s y x g w ∧ XI M' s ∧ Fr M M') := by
  refine ci_of (L := [some (.ref (K.1 + 0)), some (.int y), some (.int x), some (.int g), some (.int w), none]) (by decide +kernel) (Nat.le_of_ble_eq_true rfl) rfl rfl (fun E => ?_)
  refine wp_aload_n (pc := 0) dX8_routes_0 rfl ?_
  refine wf_getR (pc := 1) dX8_routes_1 fl_X8_27 lk_0 (H.r 0 3 14 rfl) ?_
  refine wp_iload_n (pc := 4) dX8_routes_4 rfl ?_
  refine wf_callVi (pc := 5) dX8_routes_5 cl_X8_120 (c_hasDog IL_14 H.r V.l.N H.l) IL_14.1 rfl rfl rfl rfl (Nat.le_of_ble_eq_true rfl) (by decide) ⟨Nat.le_refl _, Nat.le_refl _⟩ (fun r5 M5 q5 => ?_)
  rw [q5.1, q5.2]
  refine wp_if_ne (pc := 8) 13 dX8_routes_8 (by decide) (fun h8 => ?_) (fun h8 => ?_)
  · have h8 := b2i_1 h8
    obtain ⟨d, hd, ed⟩ := inD_of (by assumption) (show lD s.Λ < 2 ^ 31 by have := V.l.N.1; omega)
    have hd4 : d < 4 := Nat.lt_of_lt_of_le hd V.l.N.1
    subst ed
    refine wp_iload_n (pc := 13) dX8_routes_13 rfl ?_
    refine wp_ic (pc := 14) (x := nI 1) dX8_routes_14 ic_1 ?_
    refine wp_icmp_lt (pc := 15) 44 dX8_routes_15 (by decide) (fun h15 => ?_) (fun h15 => ?_)
    · have e : ¬ (rg 1 7 x = true ∧ inD g 5 = true ∧ rg 0 1 w = true) := fun q => by rw [rg_n1 h15] at q; cases q.1
      refine wp_bipush (pc := 44) (x := (-2)) dX8_routes_44 bp_m2 ?_
      refine wf_iret (pc := 46) dX8_routes_46 rfl ?_
      unfold oRoutes; rw [if_pos h8, if_neg e]
      exact ⟨rfl, H, Fr.rf⟩
    · refine wp_iload_n (pc := 18) dX8_routes_18 rfl ?_
      refine wp_bipush (pc := 19) (x := nI 7) dX8_routes_19 bp_7 ?_
      refine wp_icmp_gt (pc := 21) 44 dX8_routes_21 (by decide) (fun h21 => ?_) (fun h21 => ?_)
      · have e : ¬ (rg 1 7 x = true ∧ inD g 5 = true ∧ rg 0 1 w = true) := fun q => by rw [rg_n2 h21] at q; cases q.1
        refine wp_bipush (pc := 44) (x := (-2)) dX8_routes_44 bp_m2 ?_
        refine wf_iret (pc := 46) dX8_routes_46 rfl ?_
        unfold oRoutes; rw [if_pos h8, if_neg e]
        exact ⟨rfl, H, Fr.rf⟩
      · have e1 : rg 1 7 x = true := rg_y h15 h21
        refine wp_iload_n (pc := 24) dX8_routes_24 rfl ?_
        refine wp_if_lt (pc := 25) 44 dX8_routes_25 (by decide) (fun h25 => ?_) (fun h25 => ?_)
        · have e : ¬ (rg 1 7 x = true ∧ inD g 5 = true ∧ rg 0 1 w = true) := fun q => in_n1 h25 q.2.1
          refine wp_bipush (pc := 44) (x := (-2)) dX8_routes_44 bp_m2 ?_
          refine wf_iret (pc := 46) dX8_routes_46 rfl ?_
          unfold oRoutes; rw [if_pos h8, if_neg e]
          exact ⟨rfl, H, Fr.rf⟩
        · refine wp_iload_n (pc := 28) dX8_routes_28 rfl ?_
          refine wp_ic (pc := 29) (x := nI 5) dX8_routes_29 ic_5 ?_
          refine wp_icmp_ge (pc := 30) 44 dX8_routes_30 (by decide) (fun h30 => ?_) (fun h30 => ?_)
          · have e : ¬ (rg 1 7 x = true ∧ inD g 5 = true ∧ rg 0 1 w = true) := fun q => in_n3 h30 q.2.1
            refine wp_bipush (pc := 44) (x := (-2)) dX8_routes_44 bp_m2 ?_
            refine wf_iret (pc := 46) dX8_routes_46 rfl ?_
            unfold oRoutes; rw [if_pos h8, if_neg e]
            exact ⟨rfl, H, Fr.rf⟩
          · have e2 : inD g 5 = true := in_n4 h25 h30
            refine wp_iload (pc := 33) dX8_routes_33 rfl ?_
            refine wp_if_lt (pc := 35) 44 dX8_routes_35 (by decide) (fun h35 => ?_) (fun h35 => ?_)
            · have e : ¬ (rg 1 7 x = true ∧ inD g 5 = true ∧ rg 0 1 w = true) := fun q => by rw [rg_n1 h35] at q; cases q.2.2
              refine wp_bipush (pc := 44) (x := (-2)) dX8_routes_44 bp_m2 ?_
              refine wf_iret (pc := 46) dX8_routes_46 rfl ?_
              unfold oRoutes; rw [if_pos h8, if_neg e]
              exact ⟨rfl, H, Fr.rf⟩
            · refine wp_iload (pc := 38) dX8_routes_38 rfl ?_
              refine wp_ic (pc := 40) (x := nI 1) dX8_routes_40 ic_1 ?_
              refine wp_icmp_le (pc := 41) 47 dX8_routes_41 (by decide) (fun h41 => ?_) (fun h41 => ?_)
              · have e3 : rg 0 1 w = true := rg_y3 h35 h41
                have e := And.intro e1 (And.intro e2 e3)
                obtain ⟨n, n1, n7, en⟩ := rg_of e1 (by decide) (by decide)
                obtain ⟨z, hz, ez⟩ := inD_of e2 (by decide)
                obtain ⟨u, u1, u2, eu⟩ := rg_of e3 (by decide) (by decide)
                subst en ez eu
                obtain ⟨g1, g2⟩ := sN_dog V.p hd
                refine wp_aload_n (pc := 47) dX8_routes_47 rfl ?_
                refine wf_getR (pc := 48) dX8_routes_48 fl_X8_58 lk_0 (H.r 0 8 131 rfl) ?_
                refine wp_aload_n (pc := 51) dX8_routes_51 rfl ?_
                refine wf_getR (pc := 52) dX8_routes_52 fl_X8_27 lk_0 (H.r 0 3 14 rfl) ?_
                refine wp_aload_n (pc := 55) dX8_routes_55 rfl ?_
                refine wf_getR (pc := 56) dX8_routes_56 fl_X8_34 lk_0 (H.r 0 4 19 rfl) ?_
                refine wp_iload_n (pc := 59) dX8_routes_59 rfl ?_
                refine wf_callVv (pc := 60) dX8_routes_60 cl_X8_186 (c_ahead_look IT_19 IL_14 H.r V.l.N H.l H.p (by omega) (by omega) hd4 V.p.1 (by have := V.h; omega)) lk_131 rfl rfl rfl rfl (Nat.le_of_ble_eq_true rfl) (by decide) ⟨Nat.le_refl _, Nat.le_refl _⟩ (fun M60 q60 => ?_)
                have F : Fr M M60 := q60.1.fr (by decide)
                have H := H.scr q60.1 (by omega)
                refine wp_aload_n (pc := 63) dX8_routes_63 rfl ?_
                refine wf_getR (pc := 64) dX8_routes_64 fl_X8_34 lk_0 (H.r 0 4 19 rfl) ?_
                refine wf_getR (pc := 67) dX8_routes_67 fl_X8_124 IT_19.1 (H.r 19 2 20 rfl) ?_
                refine wp_iload_n (pc := 70) dX8_routes_70 rfl ?_
                refine wf_iald (pc := 71) (j := d) dX8_routes_71 IT_19.2.1 rfl (by omega) ?_
                rw [(H.p.2.2.1 d hd).1, g1]
                refine wp_istore (pc := 72) (L' := [_, _, _, _, _, _]) dX8_routes_72 (Nat.le_of_ble_eq_true rfl) rfl rfl ?_
                refine wp_aload_n (pc := 74) dX8_routes_74 rfl ?_
                refine wf_getR (pc := 75) dX8_routes_75 fl_X8_58 lk_0 (H.r 0 8 131 rfl) ?_
                refine wp_iload_n (pc := 78) dX8_routes_78 rfl ?_
                refine wp_iload_n (pc := 79) dX8_routes_79 rfl ?_
                refine wf_callVv (pc := 80) dX8_routes_80 cl_X8_190 (c_countWays H.r q60.2 n1 n7 hz) lk_131 rfl rfl rfl rfl (Nat.le_of_ble_eq_true rfl) (by decide) ⟨Nat.le_refl _, Nat.le_refl _⟩ (fun M80 q80 => ?_)
                have F := F.tr (q80.1.fr (by decide))
                have H := H.scr q80.1 (by omega)
                have he : XE M80 (perP s.Λ s.P d s.h) := q60.2.si q80.1.si (by omega)
                refine wp_iload (pc := 83) dX8_routes_83 rfl ?_
                refine wp_if_ne (pc := 85) 100 dX8_routes_85 (by decide) (fun h85 => ?_) (fun h85 => ?_)
                · have e5 : ¬ u = 0 := fun q => h85 (by rw [q]; rfl)
                  refine wp_aload_n (pc := 100) dX8_routes_100 rfl ?_
                  refine wf_getR (pc := 101) dX8_routes_101 fl_X8_58 lk_0 (H.r 0 8 131 rfl) ?_
                  refine wp_iload_n (pc := 104) dX8_routes_104 rfl ?_
                  refine wp_iload (pc := 105) dX8_routes_105 rfl ?_
                  refine wf_callVi (pc := 107) dX8_routes_107 cl_X8_197 (c_firstRow H.r he n7 g2 q80.2) lk_131 rfl rfl rfl rfl (Nat.le_of_ble_eq_true rfl) (by decide) ⟨Nat.le_refl _, Nat.le_refl _⟩ (fun r107 M107 q107 => ?_)
                  rw [q107.1, q107.2]
                  refine wf_iret (pc := 110) dX8_routes_110 rfl ?_
                  unfold oRoutes oRoutesN; rw [if_pos h8, if_pos e, nI_cl (by omega), nI_cl (by omega), nI_cl (by omega), nI_cl (by omega)]
                  first | rw [if_pos e5] | rw [if_neg e5]
                  exact ⟨rfl, H, F⟩
                · have e5 : u = 0 := (nI_eq (by omega) (by decide)).mp h85
                  refine wp_aload_n (pc := 88) dX8_routes_88 rfl ?_
                  refine wf_getR (pc := 89) dX8_routes_89 fl_X8_58 lk_0 (H.r 0 8 131 rfl) ?_
                  refine wp_iload (pc := 92) dX8_routes_92 rfl ?_
                  refine wf_callVi (pc := 94) dX8_routes_94 cl_X8_194 (c_waysFrom H.r g2 (X := cwN (perP s.Λ s.P d s.h) z n 0) (fun s hs => q80.2 0 (by omega) s hs)) lk_131 rfl rfl rfl rfl (Nat.le_of_ble_eq_true rfl) (by decide) ⟨Nat.le_refl _, Nat.le_refl _⟩ (fun r94 M94 q94 => ?_)
                  rw [q94.1, q94.2]
                  refine wp_goto (pc := 97) 110 dX8_routes_97 (by decide) ?_
                  refine wf_iret (pc := 110) dX8_routes_110 rfl ?_
                  unfold oRoutes oRoutesN; rw [if_pos h8, if_pos e, nI_cl (by omega), nI_cl (by omega), nI_cl (by omega), nI_cl (by omega)]
                  first | rw [if_pos e5] | rw [if_neg e5]
                  exact ⟨rfl, H, F⟩
              · have e : ¬ (rg 1 7 x = true ∧ inD g 5 = true ∧ rg 0 1 w = true) := fun q => by rw [rg_n3 h41] at q; cases q.2.2
                refine wp_bipush (pc := 44) (x := (-2)) dX8_routes_44 bp_m2 ?_
                refine wf_iret (pc := 46) dX8_routes_46 rfl ?_
                unfold oRoutes; rw [if_pos h8, if_neg e]
                exact ⟨rfl, H, Fr.rf⟩
  · have h8 := b2i_0 h8
    refine wp_ic (pc := 11) (x := (-1)) dX8_routes_11 ic_m1 ?_
    refine wf_iret (pc := 12) dX8_routes_12 rfl ?_
    unfold oRoutes; rw [if_neg (by rw [h8]; decide)]
    exact ⟨rfl, H, Fr.rf⟩
/-- the heir among the dogs below o; 9: none -/
def heirN (Λ : Lw) (d : Nat) : Nat → Nat
  | 0 => 9
  | o + 1 => if o ≠ d ∧ dgO (pq (lPa Λ)) (lD Λ) 4 0 d o ≠ 9 ∧ inhB Λ d o (heirN Λ d o) = true then o else heirN Λ d o
theorem heirN_ok (Λ : Lw) (d : Nat) : ∀ o, heirN Λ d o = 9 ∨ heirN Λ d o < o
  | 0 => Or.inl rfl
  | o + 1 => by
    unfold heirN
    split
    · right; omega
    · rcases heirN_ok Λ d o with q | q
      · exact Or.inl q
      · right; omega
theorem nv_is9 {x : Nat} (hx : x < 100) : nv x = no9 ↔ x = 9 := by
  have e : ∀ x, x < 100 → (nv x = no9 ↔ x = 9) := by decide +kernel
  exact e x hx
def oHeir (s : Sv) (y : Int32) : Int32 := if inD y (lD s.Λ) = true then nv (heirN s.Λ y.toNatClampNeg (lD s.Λ)) else -1
theorem OkL.pa {Λ : Lw} (h : OkL Λ) : PaOk Λ := fun d hd => (h.2.2.2.2.1 d hd).2.2
theorem c_heir {l : Launch} {K : CtxT} {M : Mm} {s : Sv} {B : Nat} (H : XI M s) (V : OkV B s) (hB : B ≤ 9999) {y : Int32} : Ci l K 3 mX8_heir [.ref (K.1 + 0), .int y] M (fun r M' => r = oHeir s y ∧ XI M' s ∧ Fr M M') := by
  refine ci_of (L := [some (.ref (K.1 + 0)), some (.int y), none, none]) (by decide +kernel) (Nat.le_of_ble_eq_true rfl) rfl rfl (fun E => ?_)
  have loop : ∀ (d : Nat), d < lD s.Λ → ∀ (n o : Nat), n = lD s.Λ - o → o ≤ lD s.Λ → Wp E K mX8_heir 3 (0, 0) 18 [some (.ref (K.1 + 0)), some (.int (nI d)), some (.int (nv (heirN s.Λ d o))), some (.int (nI o))] [] 168 M 0 0 (zI E K (fun r M' => r = oHeir s (nI d) ∧ XI M' s ∧ Fr M M')) := by
    intro d hd n
    have hD := V.l.1
    induction n with
    | zero =>
      intro o hn ho
      refine wp_iload_n (pc := 18) dX8_heir_18 rfl ?_
      refine wp_aload_n (pc := 19) dX8_heir_19 rfl ?_
      refine wf_getR (pc := 20) dX8_heir_20 fl_X8_27 lk_0 (H.r 0 3 14 rfl) ?_
      refine wf_getI (pc := 23) dX8_heir_23 fl_X8_90 IL_14.1 ?_
      rw [H.l.1]
      refine wp_icmp_ge (pc := 26) 69 dX8_heir_26 (by decide) (fun h26 => ?_) (fun h26 => ?_)
      · have e : o = lD s.Λ := by omega
        subst e
        refine wp_iload_n (pc := 69) dX8_heir_69 rfl ?_
        refine wf_iret (pc := 70) dX8_heir_70 rfl ?_
        refine ⟨?_, H, Fr.rf⟩
        unfold oHeir
        rw [if_pos (inD_nI (by omega) hd), nI_cl (by omega)]
      · exact absurd (nI_le (by omega) (by omega)) h26
    | succ n ih =>
      intro o hn ho
      have ho2 : o < lD s.Λ := by omega
      have hdg := dgO_le (pq (lPa s.Λ)) (lD s.Λ) 4 0 d o (by omega)
      have hpr := heirN_ok s.Λ d o
      refine wp_iload_n (pc := 18) dX8_heir_18 rfl ?_
      refine wp_aload_n (pc := 19) dX8_heir_19 rfl ?_
      refine wf_getR (pc := 20) dX8_heir_20 fl_X8_27 lk_0 (H.r 0 3 14 rfl) ?_
      refine wf_getI (pc := 23) dX8_heir_23 fl_X8_90 IL_14.1 ?_
      rw [H.l.1]
      refine wp_icmp_ge (pc := 26) 69 dX8_heir_26 (by decide) (fun h26 => ?_) (fun h26 => ?_)
      · exact absurd h26 (nI_ge (by omega) (by omega))
      · refine wp_iload_n (pc := 29) dX8_heir_29 rfl ?_
        refine wp_iload_n (pc := 30) dX8_heir_30 rfl ?_
        refine wp_icmp_eq (pc := 31) 63 dX8_heir_31 (by decide) (fun h31 => ?_) (fun h31 => ?_)
        · have hno : ¬ (o ≠ d ∧ dgO (pq (lPa s.Λ)) (lD s.Λ) 4 0 d o ≠ 9 ∧ inhB s.Λ d o (heirN s.Λ d o) = true) := fun q => q.1 ((nI_eq (by omega) (by omega)).mp h31)
          refine wp_iinc1 (pc := 63) (L' := [_, _, _, _]) dX8_heir_63 rfl rfl rfl ?_
          refine wp_goto (pc := 66) 18 dX8_heir_66 (by decide) ?_
          have := ih (o + 1) (by omega) (by omega)
          first | (rw [show heirN s.Λ d (o + 1) = heirN s.Λ d o from if_neg hno] at this; exact this) | (rw [show heirN s.Λ d (o + 1) = o from if_pos ⟨e1, e2, h58⟩, nv_n (by omega)] at this; exact this)
        · have e1 : o ≠ d := fun q => h31 (by rw [q])
          refine wp_aload_n (pc := 34) dX8_heir_34 rfl ?_
          refine wf_getR (pc := 35) dX8_heir_35 fl_X8_27 lk_0 (H.r 0 3 14 rfl) ?_
          refine wp_iload_n (pc := 38) dX8_heir_38 rfl ?_
          refine wp_iload_n (pc := 39) dX8_heir_39 rfl ?_
          refine wf_callVi (pc := 40) dX8_heir_40 cl_X8_207 (c_degree IL_14 H.r V.l.N H.l V.l.pa hd ho2) IL_14.1 rfl rfl rfl rfl (Nat.le_of_ble_eq_true rfl) (by decide) ⟨Nat.le_refl _, Nat.le_refl _⟩ (fun r40 M40 q40 => ?_)
          rw [q40.1, q40.2]
          refine wp_bipush (pc := 43) (x := (-9)) dX8_heir_43 bp_m9 ?_
          refine wp_icmp_eq (pc := 45) 63 dX8_heir_45 (by decide) (fun h45 => ?_) (fun h45 => ?_)
          · have hno : ¬ (o ≠ d ∧ dgO (pq (lPa s.Λ)) (lD s.Λ) 4 0 d o ≠ 9 ∧ inhB s.Λ d o (heirN s.Λ d o) = true) := fun q => q.2.1 ((nv_is9 (by omega)).mp h45)
            refine wp_iinc1 (pc := 63) (L' := [_, _, _, _]) dX8_heir_63 rfl rfl rfl ?_
            refine wp_goto (pc := 66) 18 dX8_heir_66 (by decide) ?_
            have := ih (o + 1) (by omega) (by omega)
            first | (rw [show heirN s.Λ d (o + 1) = heirN s.Λ d o from if_neg hno] at this; exact this) | (rw [show heirN s.Λ d (o + 1) = o from if_pos ⟨e1, e2, h58⟩, nv_n (by omega)] at this; exact this)
          · have e2 := fun q => h45 ((nv_is9 (by omega)).mpr q)
            refine wp_aload_n (pc := 48) dX8_heir_48 rfl ?_
            refine wf_getR (pc := 49) dX8_heir_49 fl_X8_27 lk_0 (H.r 0 3 14 rfl) ?_
            refine wp_iload_n (pc := 52) dX8_heir_52 rfl ?_
            refine wp_iload_n (pc := 53) dX8_heir_53 rfl ?_
            refine wp_iload_n (pc := 54) dX8_heir_54 rfl ?_
            refine wf_callVi (pc := 55) dX8_heir_55 cl_X8_210 (c_inheritsBefore IL_14 H.r V.l.N H.l V.l.pa hd ho2 (by omega)) IL_14.1 rfl rfl rfl rfl (Nat.le_of_ble_eq_true rfl) (by decide) ⟨Nat.le_refl _, Nat.le_refl _⟩ (fun r55 M55 q55 => ?_)
            rw [q55.1, q55.2]
            refine wp_if_eq (pc := 58) 63 dX8_heir_58 (by decide) (fun h58 => ?_) (fun h58 => ?_)
            · have h58 := b2i_0 h58
              have hno : ¬ (o ≠ d ∧ dgO (pq (lPa s.Λ)) (lD s.Λ) 4 0 d o ≠ 9 ∧ inhB s.Λ d o (heirN s.Λ d o) = true) := fun q => by rw [h58] at q; cases q.2.2
              refine wp_iinc1 (pc := 63) (L' := [_, _, _, _]) dX8_heir_63 rfl rfl rfl ?_
              refine wp_goto (pc := 66) 18 dX8_heir_66 (by decide) ?_
              have := ih (o + 1) (by omega) (by omega)
              first | (rw [show heirN s.Λ d (o + 1) = heirN s.Λ d o from if_neg hno] at this; exact this) | (rw [show heirN s.Λ d (o + 1) = o from if_pos ⟨e1, e2, h58⟩, nv_n (by omega)] at this; exact this)
            · have h58 := b2i_1 h58
              refine wp_iload_n (pc := 61) dX8_heir_61 rfl ?_
              refine wp_istore_n (pc := 62) (L' := [_, _, _, _]) dX8_heir_62 (Nat.le_of_ble_eq_true rfl) rfl rfl ?_
              refine wp_iinc1 (pc := 63) (L' := [_, _, _, _]) dX8_heir_63 rfl rfl rfl ?_
              refine wp_goto (pc := 66) 18 dX8_heir_66 (by decide) ?_
              have := ih (o + 1) (by omega) (by omega)
              first | (rw [show heirN s.Λ d (o + 1) = heirN s.Λ d o from if_neg hno] at this; exact this) | (rw [show heirN s.Λ d (o + 1) = o from if_pos ⟨e1, e2, h58⟩, nv_n (by omega)] at this; exact this)
  refine wp_aload_n (pc := 0) dX8_heir_0 rfl ?_
  refine wf_getR (pc := 1) dX8_heir_1 fl_X8_27 lk_0 (H.r 0 3 14 rfl) ?_
  refine wp_iload_n (pc := 4) dX8_heir_4 rfl ?_
  refine wf_callVi (pc := 5) dX8_heir_5 cl_X8_120 (c_hasDog IL_14 H.r V.l.N H.l) IL_14.1 rfl rfl rfl rfl (Nat.le_of_ble_eq_true rfl) (by decide) ⟨Nat.le_refl _, Nat.le_refl _⟩ (fun r5 M5 q5 => ?_)
  rw [q5.1, q5.2]
  refine wp_if_ne (pc := 8) 13 dX8_heir_8 (by decide) (fun h8 => ?_) (fun h8 => ?_)
  · have h8 := b2i_1 h8
    obtain ⟨d, hd, ed⟩ := inD_of (by assumption) (show lD s.Λ < 2 ^ 31 by have := V.l.N.1; omega)
    have hd4 : d < 4 := Nat.lt_of_lt_of_le hd V.l.N.1
    subst ed
    refine wp_bipush (pc := 13) (x := (-9)) dX8_heir_13 bp_m9 ?_
    refine wp_istore_n (pc := 15) (L' := [_, _, _, _]) dX8_heir_15 (Nat.le_of_ble_eq_true rfl) rfl rfl ?_
    refine wp_ic (pc := 16) (x := nI 0) dX8_heir_16 ic_0 ?_
    refine wp_istore_n (pc := 17) (L' := [_, _, _, _]) dX8_heir_17 (Nat.le_of_ble_eq_true rfl) rfl rfl ?_
    exact loop d hd (lD s.Λ) 0 (by omega) (by omega)
  · have h8 := b2i_0 h8
    refine wp_ic (pc := 11) (x := (-1)) dX8_heir_11 ic_m1 ?_
    refine wf_iret (pc := 12) dX8_heir_12 rfl ?_
    unfold oHeir; rw [if_neg (by rw [h8]; decide)]
    exact ⟨rfl, H, Fr.rf⟩
