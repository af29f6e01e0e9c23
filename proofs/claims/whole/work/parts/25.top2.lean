theorem tab_out {x : Int32} {N : Nat} (hN : N < 2 ^ 31) (h : ∀ i, i ≤ N → ¬ x = nI i) : x.toInt < 0 ∨ (N : Int) < x.toInt := by
  rcases Int.lt_or_le x.toInt 0 with q | q
  · exact Or.inl q
  · right
    rcases Int.lt_or_le (N : Int) x.toInt with r | r
    · exact r
    · exfalso
      obtain ⟨j, hj, e⟩ := nI_of (x := x) (by
        intro w
        have := Int32.lt_iff_toInt_lt.mp w
        simp at this
        omega)
      refine h j ?_ e
      rw [e, nI_toInt hj] at r
      omega
theorem c_wipe {l : Launch} {K : CtxT} {M : Mm} {s : Sv} {B : Nat} (H : XI M s) (V : OkV B s) (hB : B ≤ 9999) : Ci l K 0 mX8_wipe [.ref (K.1 + 0)] M (fun r M' => r = nI s.n ∧ XI M' (s.txt 0 s.T) ∧ Fr M M') := by
  refine ci_of (L := [some (.ref (K.1 + 0)), none]) (by decide +kernel) (Nat.le_of_ble_eq_true rfl) rfl rfl (fun E => ?_)
  refine wp_aload_n (pc := 0) dX8_wipe_0 rfl ?_
  refine wf_getI (pc := 1) dX8_wipe_1 fl_X8_13 lk_0 ?_
  rw [H.t.1]
  refine wp_istore_n (pc := 4) (L' := [_, _]) dX8_wipe_4 (Nat.le_of_ble_eq_true rfl) rfl rfl ?_
  refine wp_aload_n (pc := 5) dX8_wipe_5 rfl ?_
  refine wp_ic (pc := 6) (x := nI 0) dX8_wipe_6 ic_0 ?_
  refine wf_putI (pc := 7) dX8_wipe_7 fl_X8_13 lk_0 ?_
  refine wp_iload_n (pc := 10) dX8_wipe_10 rfl ?_
  refine wf_iret (pc := 11) dX8_wipe_11 rfl ?_
  have q10 : Sm 0 2 M (wI M 0 1 (nI 0)) := Sm.w (by omega) (by omega)
  exact ⟨rfl, H.txt q10 ⟨wI_at _ _ _ _, fun k hk => absurd hk (Nat.not_lt_zero _)⟩, q10.fr (by decide)⟩
def oAbout (s : Sv) (x : Int32) : Int32 := if x = nI 0 then nI (lD s.Λ) else if x = nI 1 then nI (lM s.Λ) else if x = nI 2 then lLe s.Λ else if x = nI 3 then nI s.h else if x = nI 4 then lRo s.Λ (s.h % 4) else if x = nI 5 then s.P 18 else if x = nI 6 then nI (impN s.P (lM s.Λ)) else if x = nI 7 then sumB s.P (lD s.Λ) else if x = nI 8 then nI s.c else if x = nI 9 then nI s.σ.1 else if x = nI 10 then nI s.n else -2
theorem c_about {l : Launch} {K : CtxT} {M : Mm} {s : Sv} {B : Nat} (H : XI M s) (V : OkV B s) (hB : B ≤ 9999) {x : Int32} : Ci l K 2 mX8_about [.ref (K.1 + 0), .int x] M (fun r M' => r = oAbout s x ∧ XI M' s ∧ Fr M M') := by
  refine ci_of (L := [some (.ref (K.1 + 0)), some (.int x)]) (by decide +kernel) (Nat.le_of_ble_eq_true rfl) rfl rfl (fun E => ?_)
  refine wp_iload_n (pc := 0) dX8_about_0 rfl ?_
  by_cases e0 : x = nI 0
  · refine wp_tabIn (pc := 1) 60 dX8_about_1 (by rw [e0]; decide) (by rw [e0]; decide) (by rw [e0]; rfl) (by decide) ?_
    refine wp_aload_n (pc := 60) dX8_about_60 rfl ?_
    refine wf_getR (pc := 61) dX8_about_61 fl_X8_27 lk_0 (H.r 0 3 14 rfl) ?_
    refine wf_getI (pc := 64) dX8_about_64 fl_X8_90 IL_14.1 ?_
    refine wf_iret (pc := 67) dX8_about_67 rfl ?_
    refine ⟨?_, H, Fr.rf⟩
    unfold oAbout; rw [if_pos e0]
    exact H.l.1
  by_cases e1 : x = nI 1
  · refine wp_tabIn (pc := 1) 68 dX8_about_1 (by rw [e1]; decide) (by rw [e1]; decide) (by rw [e1]; rfl) (by decide) ?_
    refine wp_aload_n (pc := 68) dX8_about_68 rfl ?_
    refine wf_getR (pc := 69) dX8_about_69 fl_X8_27 lk_0 (H.r 0 3 14 rfl) ?_
    refine wf_getI (pc := 72) dX8_about_72 fl_X8_93 IL_14.1 ?_
    refine wf_iret (pc := 75) dX8_about_75 rfl ?_
    refine ⟨?_, H, Fr.rf⟩
    unfold oAbout; rw [if_neg e0, if_pos e1]
    exact H.l.2.1
  by_cases e2 : x = nI 2
  · refine wp_tabIn (pc := 1) 76 dX8_about_1 (by rw [e2]; decide) (by rw [e2]; decide) (by rw [e2]; rfl) (by decide) ?_
    refine wp_aload_n (pc := 76) dX8_about_76 rfl ?_
    refine wf_getR (pc := 77) dX8_about_77 fl_X8_27 lk_0 (H.r 0 3 14 rfl) ?_
    refine wf_getI (pc := 80) dX8_about_80 fl_X8_96 IL_14.1 ?_
    refine wf_iret (pc := 83) dX8_about_83 rfl ?_
    refine ⟨?_, H, Fr.rf⟩
    unfold oAbout; rw [if_neg e0, if_neg e1, if_pos e2]
    exact H.l.2.2.1
  by_cases e3 : x = nI 3
  · refine wp_tabIn (pc := 1) 84 dX8_about_1 (by rw [e3]; decide) (by rw [e3]; decide) (by rw [e3]; rfl) (by decide) ?_
    refine wp_aload_n (pc := 84) dX8_about_84 rfl ?_
    refine wf_getR (pc := 85) dX8_about_85 fl_X8_34 lk_0 (H.r 0 4 19 rfl) ?_
    refine wf_getI (pc := 88) dX8_about_88 fl_X8_99 IT_19.1 ?_
    refine wf_iret (pc := 91) dX8_about_91 rfl ?_
    refine ⟨?_, H, Fr.rf⟩
    unfold oAbout; rw [if_neg e0, if_neg e1, if_neg e2, if_pos e3]
    exact (H.p.1.trans V.p.1)
  by_cases e4 : x = nI 4
  · refine wp_tabIn (pc := 1) 92 dX8_about_1 (by rw [e4]; decide) (by rw [e4]; decide) (by rw [e4]; rfl) (by decide) ?_
    refine wp_aload_n (pc := 92) dX8_about_92 rfl ?_
    refine wf_getR (pc := 93) dX8_about_93 fl_X8_27 lk_0 (H.r 0 3 14 rfl) ?_
    refine wp_aload_n (pc := 96) dX8_about_96 rfl ?_
    refine wf_getR (pc := 97) dX8_about_97 fl_X8_34 lk_0 (H.r 0 4 19 rfl) ?_
    refine wf_getI (pc := 100) dX8_about_100 fl_X8_99 IT_19.1 ?_
    rw [show M.1 19 0 = nI s.h from H.p.1.trans V.p.1]
    refine wf_callVi (pc := 103) dX8_about_103 cl_X8_102 (c_wardenAt IL_14 H.r V.l.N H.l (by have := V.h; omega)) IL_14.1 rfl rfl rfl rfl (Nat.le_of_ble_eq_true rfl) (by decide) ⟨Nat.le_refl _, Nat.le_refl _⟩ (fun r103 M103 q103 => ?_)
    rw [q103.1, q103.2]
    refine wf_iret (pc := 106) dX8_about_106 rfl ?_
    refine ⟨?_, H, Fr.rf⟩
    unfold oAbout; rw [if_neg e0, if_neg e1, if_neg e2, if_neg e3, if_pos e4]
  by_cases e5 : x = nI 5
  · refine wp_tabIn (pc := 1) 107 dX8_about_1 (by rw [e5]; decide) (by rw [e5]; decide) (by rw [e5]; rfl) (by decide) ?_
    refine wp_aload_n (pc := 107) dX8_about_107 rfl ?_
    refine wf_getR (pc := 108) dX8_about_108 fl_X8_34 lk_0 (H.r 0 4 19 rfl) ?_
    refine wf_getI (pc := 111) dX8_about_111 fl_X8_106 IT_19.1 ?_
    refine wf_iret (pc := 114) dX8_about_114 rfl ?_
    refine ⟨?_, H, Fr.rf⟩
    unfold oAbout; rw [if_neg e0, if_neg e1, if_neg e2, if_neg e3, if_neg e4, if_pos e5]
    exact H.p.2.1
  by_cases e6 : x = nI 6
  · refine wp_tabIn (pc := 1) 115 dX8_about_1 (by rw [e6]; decide) (by rw [e6]; decide) (by rw [e6]; rfl) (by decide) ?_
    refine wp_aload_n (pc := 115) dX8_about_115 rfl ?_
    refine wf_getR (pc := 116) dX8_about_116 fl_X8_34 lk_0 (H.r 0 4 19 rfl) ?_
    refine wp_aload_n (pc := 119) dX8_about_119 rfl ?_
    refine wf_getR (pc := 120) dX8_about_120 fl_X8_27 lk_0 (H.r 0 3 14 rfl) ?_
    refine wf_callVi (pc := 123) dX8_about_123 cl_X8_109 (c_impounded IT_19 IL_14 H.r V.l.N H.l H.p) IT_19.1 rfl rfl rfl rfl (Nat.le_of_ble_eq_true rfl) (by decide) ⟨Nat.le_refl _, Nat.le_refl _⟩ (fun r123 M123 q123 => ?_)
    rw [q123.1, q123.2]
    refine wf_iret (pc := 126) dX8_about_126 rfl ?_
    refine ⟨?_, H, Fr.rf⟩
    unfold oAbout; rw [if_neg e0, if_neg e1, if_neg e2, if_neg e3, if_neg e4, if_neg e5, if_pos e6]
  by_cases e7 : x = nI 7
  · refine wp_tabIn (pc := 1) 127 dX8_about_1 (by rw [e7]; decide) (by rw [e7]; decide) (by rw [e7]; rfl) (by decide) ?_
    refine wp_aload_n (pc := 127) dX8_about_127 rfl ?_
    refine wf_getR (pc := 128) dX8_about_128 fl_X8_34 lk_0 (H.r 0 4 19 rfl) ?_
    refine wp_aload_n (pc := 131) dX8_about_131 rfl ?_
    refine wf_getR (pc := 132) dX8_about_132 fl_X8_27 lk_0 (H.r 0 3 14 rfl) ?_
    refine wf_callVi (pc := 135) dX8_about_135 cl_X8_113 (c_allBones IT_19 IL_14 H.r V.l.N H.l H.p) IT_19.1 rfl rfl rfl rfl (Nat.le_of_ble_eq_true rfl) (by decide) ⟨Nat.le_refl _, Nat.le_refl _⟩ (fun r135 M135 q135 => ?_)
    rw [q135.1, q135.2]
    refine wf_iret (pc := 138) dX8_about_138 rfl ?_
    refine ⟨?_, H, Fr.rf⟩
    unfold oAbout; rw [if_neg e0, if_neg e1, if_neg e2, if_neg e3, if_neg e4, if_neg e5, if_neg e6, if_pos e7]
  by_cases e8 : x = nI 8
  · refine wp_tabIn (pc := 1) 139 dX8_about_1 (by rw [e8]; decide) (by rw [e8]; decide) (by rw [e8]; rfl) (by decide) ?_
    refine wp_aload_n (pc := 139) dX8_about_139 rfl ?_
    refine wf_getR (pc := 140) dX8_about_140 fl_X8_44 lk_0 (H.r 0 6 31 rfl) ?_
    refine wf_getI (pc := 143) dX8_about_143 fl_X8_116 lk_31 ?_
    refine wf_iret (pc := 146) dX8_about_146 rfl ?_
    refine ⟨?_, H, Fr.rf⟩
    unfold oAbout; rw [if_neg e0, if_neg e1, if_neg e2, if_neg e3, if_neg e4, if_neg e5, if_neg e6, if_neg e7, if_pos e8]
    exact H.a.2.1
  by_cases e9 : x = nI 9
  · refine wp_tabIn (pc := 1) 147 dX8_about_1 (by rw [e9]; decide) (by rw [e9]; decide) (by rw [e9]; rfl) (by decide) ?_
    refine wp_aload_n (pc := 147) dX8_about_147 rfl ?_
    refine wf_getR (pc := 148) dX8_about_148 fl_X8_65 lk_0 (H.r 0 9 144 rfl) ?_
    refine wf_getI (pc := 151) dX8_about_151 fl_X8_119 lk_144 ?_
    refine wf_iret (pc := 154) dX8_about_154 rfl ?_
    refine ⟨?_, H, Fr.rf⟩
    unfold oAbout; rw [if_neg e0, if_neg e1, if_neg e2, if_neg e3, if_neg e4, if_neg e5, if_neg e6, if_neg e7, if_neg e8, if_pos e9]
    exact H.s.1
  by_cases e10 : x = nI 10
  · refine wp_tabIn (pc := 1) 155 dX8_about_1 (by rw [e10]; decide) (by rw [e10]; decide) (by rw [e10]; rfl) (by decide) ?_
    refine wp_aload_n (pc := 155) dX8_about_155 rfl ?_
    refine wf_getI (pc := 156) dX8_about_156 fl_X8_13 lk_0 ?_
    refine wf_iret (pc := 159) dX8_about_159 rfl ?_
    refine ⟨?_, H, Fr.rf⟩
    unfold oAbout; rw [if_neg e0, if_neg e1, if_neg e2, if_neg e3, if_neg e4, if_neg e5, if_neg e6, if_neg e7, if_neg e8, if_neg e9, if_pos e10]
    exact H.t.1
  have eN : ∀ i, i ≤ 10 → ¬ x = nI i := by
    intro i hi
    have : i = 0 ∨ i = 1 ∨ i = 2 ∨ i = 3 ∨ i = 4 ∨ i = 5 ∨ i = 6 ∨ i = 7 ∨ i = 8 ∨ i = 9 ∨ i = 10 := by omega
    rcases this with rfl | rfl | rfl | rfl | rfl | rfl | rfl | rfl | rfl | rfl | rfl
    · exact e0
    · exact e1
    · exact e2
    · exact e3
    · exact e4
    · exact e5
    · exact e6
    · exact e7
    · exact e8
    · exact e9
    · exact e10
  refine wp_tabOut (pc := 1) 160 dX8_about_1 (tab_out (by decide) eN) (by decide) ?_
  refine wp_bipush (pc := 160) (x := (-2)) dX8_about_160 bp_m2 ?_
  refine wf_iret (pc := 162) dX8_about_162 rfl ?_
  refine ⟨?_, H, Fr.rf⟩
  unfold oAbout; rw [if_neg e0, if_neg e1, if_neg e2, if_neg e3, if_neg e4, if_neg e5, if_neg e6, if_neg e7, if_neg e8, if_neg e9, if_neg e10]
def oDogN (s : Sv) (d : Nat) (x : Int32) : Int32 := if x = nI 0 then s.P d else if x = nI 1 then lRa s.Λ d else if x = nI 2 then lRm s.Λ d else if x = nI 3 then nI (kepN s.P d (lM s.Λ)) else if x = nI 4 then s.P (4 + d) else if x = nI 5 then lPa s.Λ d else -2
def oDog (s : Sv) (y x : Int32) : Int32 := if inD y (lD s.Λ) = true then oDogN s y.toNatClampNeg x else -1
def oManN (s : Sv) (m : Nat) (x : Int32) : Int32 := if x = nI 0 then s.P (8 + m) else if x = nI 1 then s.P (13 + m) else if x = nI 2 then lSi s.Λ m else if x = nI 3 then nI (if bat (s.P 18) m = nI 1 then 1 else 0) else if x = nI 4 then s.P (19 + m) else -2
def oMan (s : Sv) (y x : Int32) : Int32 := if inD y (lM s.Λ) = true then oManN s y.toNatClampNeg x else -1
theorem nI_cl {j : Nat} (h : j < 2 ^ 31) : (nI j).toNatClampNeg = j := by
  show (nI j).toInt.toNat = j
  rw [nI_toInt h]
  rfl
theorem c_dog {l : Launch} {K : CtxT} {M : Mm} {s : Sv} {B : Nat} (H : XI M s) (V : OkV B s) (hB : B ≤ 9999) {y x : Int32} : Ci l K 2 mX8_dog [.ref (K.1 + 0), .int y, .int x] M (fun r M' => r = oDog s y x ∧ XI M' s ∧ Fr M M') := by
  refine ci_of (L := [some (.ref (K.1 + 0)), some (.int y), some (.int x)]) (by decide +kernel) (Nat.le_of_ble_eq_true rfl) rfl rfl (fun E => ?_)
  refine wp_aload_n (pc := 0) dX8_dog_0 rfl ?_
  refine wf_getR (pc := 1) dX8_dog_1 fl_X8_27 lk_0 (H.r 0 3 14 rfl) ?_
  refine wp_iload_n (pc := 4) dX8_dog_4 rfl ?_
  refine wf_callVi (pc := 5) dX8_dog_5 cl_X8_120 (c_hasDog IL_14 H.r V.l.N H.l) IL_14.1 rfl rfl rfl rfl (Nat.le_of_ble_eq_true rfl) (by decide) ⟨Nat.le_refl _, Nat.le_refl _⟩ (fun r5 M5 q5 => ?_)
  rw [q5.1, q5.2]
  refine wp_if_ne (pc := 8) 13 dX8_dog_8 (by decide) (fun h8 => ?_) (fun h8 => ?_)
  · have h8 := b2i_1 h8
    obtain ⟨d, hd, ed⟩ := inD_of (by assumption) (show lD s.Λ < 2 ^ 31 by have := V.l.N.1; omega)
    have hd4 : d < 4 := Nat.lt_of_lt_of_le hd V.l.N.1
    subst ed
    refine wp_iload_n (pc := 13) dX8_dog_13 rfl ?_
    by_cases e0 : x = nI 0
    · refine wp_tabIn (pc := 14) 52 dX8_dog_14 (by rw [e0]; decide) (by rw [e0]; decide) (by rw [e0]; rfl) (by decide) ?_
      refine wp_aload_n (pc := 52) dX8_dog_52 rfl ?_
      refine wf_getR (pc := 53) dX8_dog_53 fl_X8_34 lk_0 (H.r 0 4 19 rfl) ?_
      refine wf_getR (pc := 56) dX8_dog_56 fl_X8_124 IT_19.1 (H.r 19 2 20 rfl) ?_
      refine wp_iload_n (pc := 59) dX8_dog_59 rfl ?_
      refine wf_iald (pc := 60) (j := d) dX8_dog_60 IT_19.2.1 rfl (by omega) ?_
      refine wf_iret (pc := 61) dX8_dog_61 rfl ?_
      refine ⟨?_, H, Fr.rf⟩
      unfold oDog; rw [if_pos h8, nI_cl (by omega)]
      unfold oDogN; rw [if_pos e0]
      exact (H.p.2.2.1 d hd).1
    by_cases e1 : x = nI 1
    · refine wp_tabIn (pc := 14) 62 dX8_dog_14 (by rw [e1]; decide) (by rw [e1]; decide) (by rw [e1]; rfl) (by decide) ?_
      refine wp_aload_n (pc := 62) dX8_dog_62 rfl ?_
      refine wf_getR (pc := 63) dX8_dog_63 fl_X8_27 lk_0 (H.r 0 3 14 rfl) ?_
      refine wf_getR (pc := 66) dX8_dog_66 fl_X8_127 IL_14.1 (H.r 14 5 16 rfl) ?_
      refine wp_iload_n (pc := 69) dX8_dog_69 rfl ?_
      refine wf_iald (pc := 70) (j := d) dX8_dog_70 IL_14.2.2.1 rfl (by omega) ?_
      refine wf_iret (pc := 71) dX8_dog_71 rfl ?_
      refine ⟨?_, H, Fr.rf⟩
      unfold oDog; rw [if_pos h8, nI_cl (by omega)]
      unfold oDogN; rw [if_neg e0, if_pos e1]
      exact (H.l.2.2.2.2.2 d hd).1
    by_cases e2 : x = nI 2
    · refine wp_tabIn (pc := 14) 72 dX8_dog_14 (by rw [e2]; decide) (by rw [e2]; decide) (by rw [e2]; rfl) (by decide) ?_
      refine wp_aload_n (pc := 72) dX8_dog_72 rfl ?_
      refine wf_getR (pc := 73) dX8_dog_73 fl_X8_27 lk_0 (H.r 0 3 14 rfl) ?_
      refine wf_getR (pc := 76) dX8_dog_76 fl_X8_130 IL_14.1 (H.r 14 6 17 rfl) ?_
      refine wp_iload_n (pc := 79) dX8_dog_79 rfl ?_
      refine wf_iald (pc := 80) (j := d) dX8_dog_80 IL_14.2.2.2.1 rfl (by omega) ?_
      refine wf_iret (pc := 81) dX8_dog_81 rfl ?_
      refine ⟨?_, H, Fr.rf⟩
      unfold oDog; rw [if_pos h8, nI_cl (by omega)]
      unfold oDogN; rw [if_neg e0, if_neg e1, if_pos e2]
      exact (H.l.2.2.2.2.2 d hd).2.1
    by_cases e3 : x = nI 3
    · refine wp_tabIn (pc := 14) 82 dX8_dog_14 (by rw [e3]; decide) (by rw [e3]; decide) (by rw [e3]; rfl) (by decide) ?_
      refine wp_aload_n (pc := 82) dX8_dog_82 rfl ?_
      refine wf_getR (pc := 83) dX8_dog_83 fl_X8_34 lk_0 (H.r 0 4 19 rfl) ?_
      refine wp_aload_n (pc := 86) dX8_dog_86 rfl ?_
      refine wf_getR (pc := 87) dX8_dog_87 fl_X8_27 lk_0 (H.r 0 3 14 rfl) ?_
      refine wp_iload_n (pc := 90) dX8_dog_90 rfl ?_
      refine wf_callVi (pc := 91) dX8_dog_91 cl_X8_133 (c_keptBy IT_19 IL_14 H.r V.l.N H.l H.p (by omega)) IT_19.1 rfl rfl rfl rfl (Nat.le_of_ble_eq_true rfl) (by decide) ⟨Nat.le_refl _, Nat.le_refl _⟩ (fun r91 M91 q91 => ?_)
      rw [q91.1, q91.2]
      refine wf_iret (pc := 94) dX8_dog_94 rfl ?_
      refine ⟨?_, H, Fr.rf⟩
      unfold oDog; rw [if_pos h8, nI_cl (by omega)]
      unfold oDogN; rw [if_neg e0, if_neg e1, if_neg e2, if_pos e3]
    by_cases e4 : x = nI 4
    · refine wp_tabIn (pc := 14) 95 dX8_dog_14 (by rw [e4]; decide) (by rw [e4]; decide) (by rw [e4]; rfl) (by decide) ?_
      refine wp_aload_n (pc := 95) dX8_dog_95 rfl ?_
      refine wf_getR (pc := 96) dX8_dog_96 fl_X8_34 lk_0 (H.r 0 4 19 rfl) ?_
      refine wf_getR (pc := 99) dX8_dog_99 fl_X8_137 IT_19.1 (H.r 19 3 21 rfl) ?_
      refine wp_iload_n (pc := 102) dX8_dog_102 rfl ?_
      refine wf_iald (pc := 103) (j := d) dX8_dog_103 IT_19.2.2.1 rfl (by omega) ?_
      refine wf_iret (pc := 104) dX8_dog_104 rfl ?_
      refine ⟨?_, H, Fr.rf⟩
      unfold oDog; rw [if_pos h8, nI_cl (by omega)]
      unfold oDogN; rw [if_neg e0, if_neg e1, if_neg e2, if_neg e3, if_pos e4]
      exact (H.p.2.2.1 d hd).2
    by_cases e5 : x = nI 5
    · refine wp_tabIn (pc := 14) 105 dX8_dog_14 (by rw [e5]; decide) (by rw [e5]; decide) (by rw [e5]; rfl) (by decide) ?_
      refine wp_aload_n (pc := 105) dX8_dog_105 rfl ?_
      refine wf_getR (pc := 106) dX8_dog_106 fl_X8_27 lk_0 (H.r 0 3 14 rfl) ?_
      refine wf_getR (pc := 109) dX8_dog_109 fl_X8_140 IL_14.1 (H.r 14 7 18 rfl) ?_
      refine wp_iload_n (pc := 112) dX8_dog_112 rfl ?_
      refine wf_iald (pc := 113) (j := d) dX8_dog_113 IL_14.2.2.2.2 rfl (by omega) ?_
      refine wf_iret (pc := 114) dX8_dog_114 rfl ?_
      refine ⟨?_, H, Fr.rf⟩
      unfold oDog; rw [if_pos h8, nI_cl (by omega)]
      unfold oDogN; rw [if_neg e0, if_neg e1, if_neg e2, if_neg e3, if_neg e4, if_pos e5]
      exact (H.l.2.2.2.2.2 d hd).2.2
    have eN : ∀ i, i ≤ 5 → ¬ x = nI i := by
      intro i hi
      have : i = 0 ∨ i = 1 ∨ i = 2 ∨ i = 3 ∨ i = 4 ∨ i = 5 := by omega
      rcases this with rfl | rfl | rfl | rfl | rfl | rfl
      · exact e0
      · exact e1
      · exact e2
      · exact e3
      · exact e4
      · exact e5
    refine wp_tabOut (pc := 14) 115 dX8_dog_14 (tab_out (by decide) eN) (by decide) ?_
    refine wp_bipush (pc := 115) (x := (-2)) dX8_dog_115 bp_m2 ?_
    refine wf_iret (pc := 117) dX8_dog_117 rfl ?_
    refine ⟨?_, H, Fr.rf⟩
    unfold oDog; rw [if_pos h8, nI_cl (by omega)]
    unfold oDogN; rw [if_neg e0, if_neg e1, if_neg e2, if_neg e3, if_neg e4, if_neg e5]
  · have h8 := b2i_0 h8
    refine wp_ic (pc := 11) (x := (-1)) dX8_dog_11 ic_m1 ?_
    refine wf_iret (pc := 12) dX8_dog_12 rfl ?_
    refine ⟨?_, H, Fr.rf⟩
    unfold oDog; rw [h8]; rfl
theorem c_man {l : Launch} {K : CtxT} {M : Mm} {s : Sv} {B : Nat} (H : XI M s) (V : OkV B s) (hB : B ≤ 9999) {y x : Int32} : Ci l K 2 mX8_man [.ref (K.1 + 0), .int y, .int x] M (fun r M' => r = oMan s y x ∧ XI M' s ∧ Fr M M') := by
  refine ci_of (L := [some (.ref (K.1 + 0)), some (.int y), some (.int x)]) (by decide +kernel) (Nat.le_of_ble_eq_true rfl) rfl rfl (fun E => ?_)
  refine wp_aload_n (pc := 0) dX8_man_0 rfl ?_
  refine wf_getR (pc := 1) dX8_man_1 fl_X8_27 lk_0 (H.r 0 3 14 rfl) ?_
  refine wp_iload_n (pc := 4) dX8_man_4 rfl ?_
  refine wf_callVi (pc := 5) dX8_man_5 cl_X8_143 (c_hasMan IL_14 H.r V.l.N H.l) IL_14.1 rfl rfl rfl rfl (Nat.le_of_ble_eq_true rfl) (by decide) ⟨Nat.le_refl _, Nat.le_refl _⟩ (fun r5 M5 q5 => ?_)
  rw [q5.1, q5.2]
  refine wp_if_ne (pc := 8) 13 dX8_man_8 (by decide) (fun h8 => ?_) (fun h8 => ?_)
  · have h8 := b2i_1 h8
    obtain ⟨m, hm, em⟩ := inD_of (by assumption) (show lM s.Λ < 2 ^ 31 by have := V.l.N.2.1; omega)
    have hm4 : m < 5 := Nat.lt_of_lt_of_le hm V.l.N.2.1
    subst em
    refine wp_iload_n (pc := 13) dX8_man_13 rfl ?_
    by_cases e0 : x = nI 0
    · refine wp_tabIn (pc := 14) 48 dX8_man_14 (by rw [e0]; decide) (by rw [e0]; decide) (by rw [e0]; rfl) (by decide) ?_
      refine wp_aload_n (pc := 48) dX8_man_48 rfl ?_
      refine wf_getR (pc := 49) dX8_man_49 fl_X8_34 lk_0 (H.r 0 4 19 rfl) ?_
      refine wf_getR (pc := 52) dX8_man_52 fl_X8_146 IT_19.1 (H.r 19 4 22 rfl) ?_
      refine wp_iload_n (pc := 55) dX8_man_55 rfl ?_
      refine wf_iald (pc := 56) (j := m) dX8_man_56 IT_19.2.2.2.1 rfl (by omega) ?_
      refine wf_iret (pc := 57) dX8_man_57 rfl ?_
      refine ⟨?_, H, Fr.rf⟩
      unfold oMan; rw [if_pos h8, nI_cl (by omega)]
      unfold oManN; rw [if_pos e0]
      exact (H.p.2.2.2 m hm).1
    by_cases e1 : x = nI 1
    · refine wp_tabIn (pc := 14) 58 dX8_man_14 (by rw [e1]; decide) (by rw [e1]; decide) (by rw [e1]; rfl) (by decide) ?_
      refine wp_aload_n (pc := 58) dX8_man_58 rfl ?_
      refine wf_getR (pc := 59) dX8_man_59 fl_X8_34 lk_0 (H.r 0 4 19 rfl) ?_
      refine wf_getR (pc := 62) dX8_man_62 fl_X8_149 IT_19.1 (H.r 19 5 23 rfl) ?_
      refine wp_iload_n (pc := 65) dX8_man_65 rfl ?_
      refine wf_iald (pc := 66) (j := m) dX8_man_66 IT_19.2.2.2.2.1 rfl (by omega) ?_
      refine wf_iret (pc := 67) dX8_man_67 rfl ?_
      refine ⟨?_, H, Fr.rf⟩
      unfold oMan; rw [if_pos h8, nI_cl (by omega)]
      unfold oManN; rw [if_neg e0, if_pos e1]
      exact (H.p.2.2.2 m hm).2.1
    by_cases e2 : x = nI 2
    · refine wp_tabIn (pc := 14) 68 dX8_man_14 (by rw [e2]; decide) (by rw [e2]; decide) (by rw [e2]; rfl) (by decide) ?_
      refine wp_aload_n (pc := 68) dX8_man_68 rfl ?_
      refine wf_getR (pc := 69) dX8_man_69 fl_X8_27 lk_0 (H.r 0 3 14 rfl) ?_
      refine wp_iload_n (pc := 72) dX8_man_72 rfl ?_
      refine wf_callVi (pc := 73) dX8_man_73 cl_X8_152 (c_sings IL_14 H.r V.l.N H.l hm) IL_14.1 rfl rfl rfl rfl (Nat.le_of_ble_eq_true rfl) (by decide) ⟨Nat.le_refl _, Nat.le_refl _⟩ (fun r73 M73 q73 => ?_)
      rw [q73.1, q73.2]
      refine wp_if_eq (pc := 76) 83 dX8_man_76 (by decide) (fun h76 => ?_) (fun h76 => ?_)
      · have h76 := b2i_0 h76
        refine wp_ic (pc := 83) (x := nI 0) dX8_man_83 ic_0 ?_
        refine wf_iret (pc := 84) dX8_man_84 rfl ?_
        refine ⟨?_, H, Fr.rf⟩
        unfold oMan; rw [if_pos h8, nI_cl (by omega)]
        unfold oManN; rw [if_neg e0, if_neg e1, if_pos e2]
        rcases V.l.2.2.2.2.2 m hm with q | q
        · rw [q] at h76 ⊢; try exact absurd h76 (by decide)
        · rw [q] at h76 ⊢; try exact absurd h76 (by decide)
      · have h76 := b2i_1 h76
        refine wp_ic (pc := 79) (x := nI 1) dX8_man_79 ic_1 ?_
        refine wp_goto (pc := 80) 84 dX8_man_80 (by decide) ?_
        refine wf_iret (pc := 84) dX8_man_84 rfl ?_
        refine ⟨?_, H, Fr.rf⟩
        unfold oMan; rw [if_pos h8, nI_cl (by omega)]
        unfold oManN; rw [if_neg e0, if_neg e1, if_pos e2]
        rcases V.l.2.2.2.2.2 m hm with q | q
        · rw [q] at h76 ⊢; try exact absurd h76 (by decide)
        · rw [q] at h76 ⊢; try exact absurd h76 (by decide)
    by_cases e3 : x = nI 3
    · refine wp_tabIn (pc := 14) 85 dX8_man_14 (by rw [e3]; decide) (by rw [e3]; decide) (by rw [e3]; rfl) (by decide) ?_
      refine wp_aload_n (pc := 85) dX8_man_85 rfl ?_
      refine wf_getR (pc := 86) dX8_man_86 fl_X8_34 lk_0 (H.r 0 4 19 rfl) ?_
      refine wp_iload_n (pc := 89) dX8_man_89 rfl ?_
      refine wf_callVi (pc := 90) dX8_man_90 cl_X8_155 (c_isLeashed IT_19 H.p) IT_19.1 rfl rfl rfl rfl (Nat.le_of_ble_eq_true rfl) (by decide) ⟨Nat.le_refl _, Nat.le_refl _⟩ (fun r90 M90 q90 => ?_)
      rw [q90.1, q90.2]
      refine wp_if_eq (pc := 93) 100 dX8_man_93 (by decide) (fun h93 => ?_) (fun h93 => ?_)
      · have h93 := b2i_0 h93
        refine wp_ic (pc := 100) (x := nI 0) dX8_man_100 ic_0 ?_
        refine wf_iret (pc := 101) dX8_man_101 rfl ?_
        refine ⟨?_, H, Fr.rf⟩
        unfold oMan; rw [if_pos h8, nI_cl (by omega)]
        unfold oManN; rw [if_neg e0, if_neg e1, if_neg e2, if_pos e3]
        first | (rw [if_neg (of_decide_eq_false h93)]; done) | (rw [if_pos (of_decide_eq_true h93)]; done)
      · have h93 := b2i_1 h93
        refine wp_ic (pc := 96) (x := nI 1) dX8_man_96 ic_1 ?_
        refine wp_goto (pc := 97) 101 dX8_man_97 (by decide) ?_
        refine wf_iret (pc := 101) dX8_man_101 rfl ?_
        refine ⟨?_, H, Fr.rf⟩
        unfold oMan; rw [if_pos h8, nI_cl (by omega)]
        unfold oManN; rw [if_neg e0, if_neg e1, if_neg e2, if_pos e3]
        first | (rw [if_neg (of_decide_eq_false h93)]; done) | (rw [if_pos (of_decide_eq_true h93)]; done)
    by_cases e4 : x = nI 4
    · refine wp_tabIn (pc := 14) 102 dX8_man_14 (by rw [e4]; decide) (by rw [e4]; decide) (by rw [e4]; rfl) (by decide) ?_
      refine wp_aload_n (pc := 102) dX8_man_102 rfl ?_
      refine wf_getR (pc := 103) dX8_man_103 fl_X8_34 lk_0 (H.r 0 4 19 rfl) ?_
      refine wf_getR (pc := 106) dX8_man_106 fl_X8_158 IT_19.1 (H.r 19 6 24 rfl) ?_
      refine wp_iload_n (pc := 109) dX8_man_109 rfl ?_
      refine wf_iald (pc := 110) (j := m) dX8_man_110 IT_19.2.2.2.2.2 rfl (by omega) ?_
      refine wf_iret (pc := 111) dX8_man_111 rfl ?_
      refine ⟨?_, H, Fr.rf⟩
      unfold oMan; rw [if_pos h8, nI_cl (by omega)]
      unfold oManN; rw [if_neg e0, if_neg e1, if_neg e2, if_neg e3, if_pos e4]
      exact (H.p.2.2.2 m hm).2.2
    have eN : ∀ i, i ≤ 4 → ¬ x = nI i := by
      intro i hi
      have : i = 0 ∨ i = 1 ∨ i = 2 ∨ i = 3 ∨ i = 4 := by omega
      rcases this with rfl | rfl | rfl | rfl | rfl
      · exact e0
      · exact e1
      · exact e2
      · exact e3
      · exact e4
    refine wp_tabOut (pc := 14) 112 dX8_man_14 (tab_out (by decide) eN) (by decide) ?_
    refine wp_bipush (pc := 112) (x := (-2)) dX8_man_112 bp_m2 ?_
    refine wf_iret (pc := 114) dX8_man_114 rfl ?_
    refine ⟨?_, H, Fr.rf⟩
    unfold oMan; rw [if_pos h8, nI_cl (by omega)]
    unfold oManN; rw [if_neg e0, if_neg e1, if_neg e2, if_neg e3, if_neg e4]
  · have h8 := b2i_0 h8
    refine wp_ic (pc := 11) (x := (-1)) dX8_man_11 ic_m1 ?_
    refine wf_iret (pc := 12) dX8_man_12 rfl ?_
    refine ⟨?_, H, Fr.rf⟩
    unfold oMan; rw [h8]; rfl
