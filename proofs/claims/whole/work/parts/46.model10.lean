theorem cR_keep {l : Launch} {K : CtxT} {M : Mm} {s : Sv} {B : Nat} (H : XM M s) (V : OkV B s) (hB : B ≤ 9999) {x : Int32} : Ci l K 1 mX9_keep [.ref (K.1 + 150), .int x] M (fun r M' => r = (oKeep s x).1 ∧ XM M' (oKeep s x).2 ∧ Fm M M') := by
  refine ci_of (L := [some (.ref (K.1 + 150)), some (.int x), none]) (by decide +kernel) (Nat.le_of_ble_eq_true rfl) rfl rfl (fun E => ?_)
  have loop : ∀ (i : Nat) (M5 : Mm), i < 2 → XM M5 s → Fm M M5 → ∀ (n k : Nat) (M1 : Mm), n = 25 - k → k ≤ 25 → Sm 161 163 M5 M1 → (∀ j, M1.1 162 j = if j = i then nI 1 else M5.1 162 j) → (∀ a, (a < 25 * i ∨ 25 * i + 25 ≤ a) → M1.1 161 a = M5.1 161 a) → (∀ j, j < k → M1.1 161 (25 * i + j) = s.P j) → Wp E K mX9_keep 1 (0, 0) 26 [some (.ref (K.1 + 150)), some (.int (nI i)), some (.int (nI k))] [] 168 M1 0 0 (zI E K (fun r M' => r = (oKeep s (nI i)).1 ∧ XM M' (oKeep s (nI i)).2 ∧ Fm M M')) := by
    intro i M5 hi H F n
    induction n with
    | zero =>
      intro k M1 hn hk s1 h162 ho hd
      refine wp_iload_n (pc := 26) dX9_keep_26 rfl ?_
      refine wp_bipush (pc := 27) (x := nI 25) dX9_keep_27 bp_25 ?_
      refine wp_icmp_ge (pc := 29) 55 dX9_keep_29 (by decide) (fun h29 => ?_) (fun h29 => ?_)
      · have ek : k = 25 := by omega
        subst ek
        refine wp_aload_n (pc := 55) dX9_keep_55 rfl ?_
        refine wf_getR (pc := 56) dX9_keep_56 fl_X9_35 lk_150 ((s1.rs H.r) 150 16 158 rfl) ?_
        refine wp_bipush (pc := 59) (x := nI 24) dX9_keep_59 bp_24 ?_
        refine wf_iald (pc := 61) (j := 24) dX9_keep_61 lk_158 rfl (by omega) ?_
        rw [show M1.1 158 24 = nI s.h from (s1.2 158 (by omega) 24).trans ((H.p.at (by omega)).trans V.p.1)]
        refine wf_iret (pc := 62) dX9_keep_62 rfl ?_
        unfold oKeep
        rw [if_pos (inD_nI (by decide) hi), nI_cl (by omega)]
        refine ⟨rfl, H.slots s1.1 (fun a h1 h2 k => s1.2 a (by omega) k) (fun k hk => ?_), F.tr (s1.fm (by decide))⟩
        rw [h162]
        unfold putS
        by_cases e : k = i
        · subst e
          refine ⟨by simp [b2i]; rfl, fun P hP j hj => ?_⟩
          rw [if_pos rfl] at hP
          cases hP
          exact hd j hj
        · rw [if_neg e, if_neg e]
          refine ⟨(H.k k hk).1, fun P hP j hj => ?_⟩
          rw [ho _ (by omega)]
          exact (H.k k hk).2 P hP j hj
      · exact absurd (nI_le (by omega) (by omega)) h29
    | succ n ih =>
      intro k M1 hn hk s1 h162 ho hd
      refine wp_iload_n (pc := 26) dX9_keep_26 rfl ?_
      refine wp_bipush (pc := 27) (x := nI 25) dX9_keep_27 bp_25 ?_
      refine wp_icmp_ge (pc := 29) 55 dX9_keep_29 (by decide) (fun h29 => ?_) (fun h29 => ?_)
      · exact absurd h29 (nI_ge (by omega) (by omega))
      · refine wp_aload_n (pc := 32) dX9_keep_32 rfl ?_
        refine wf_getR (pc := 33) dX9_keep_33 fl_X9_44 lk_150 ((s1.rs H.r) 150 20 161 rfl) ?_
        refine wp_bipush (pc := 36) (x := nI 25) dX9_keep_36 bp_25 ?_
        refine wp_iload_n (pc := 38) dX9_keep_38 rfl ?_
        refine wp_imul (pc := 39) dX9_keep_39 ?_
        refine wp_iload_n (pc := 40) dX9_keep_40 rfl ?_
        refine wp_iadd (pc := 41) dX9_keep_41 ?_
        refine wp_aload_n (pc := 42) dX9_keep_42 rfl ?_
        refine wf_getR (pc := 43) dX9_keep_43 fl_X9_35 lk_150 ((s1.rs H.r) 150 16 158 rfl) ?_
        refine wp_iload_n (pc := 46) dX9_keep_46 rfl ?_
        refine wf_iald (pc := 47) (j := k) dX9_keep_47 lk_158 rfl (by omega) ?_
        rw [show M1.1 158 k = s.P k from (s1.2 158 (by omega) k).trans (H.p.at (by omega))]
        refine wf_iast (pc := 48) (j := (25 * i + k)) dX9_keep_48 lk_161 (by rw [pk_mul, nI_add]) (by omega) ?_
        refine wp_iinc1 (pc := 49) (L' := [_, _, _]) dX9_keep_49 rfl rfl rfl ?_
        refine wp_goto (pc := 52) 26 dX9_keep_52 (by decide) ?_
        refine ih (k + 1) _ (by omega) (by omega) (s1.tr (Sm.w (by omega) (by omega))) (fun j => (wI_na (by decide)).trans (h162 j)) (fun a ha => (wI_nk (by omega)).trans (ho a ha)) (fun j hj => ?_)
        by_cases e9 : j = k
        · subst e9; exact wI_at _ _ _ _
        · exact (wI_nk (by omega)).trans (hd j (by omega))
  refine wp_aload_n (pc := 0) dX9_keep_0 rfl ?_
  refine wp_ic (pc := 1) (x := nI 0) dX9_keep_1 ic_0 ?_
  refine wf_putI (pc := 2) dX9_keep_2 fl_X9_66 lk_150 ?_
  have F : Fm M (wI M 150 0 (nI 0)) := Fm.w (by decide)
  have H := H.f (k := 0) (nI 0) (by decide)
  generalize wI M 150 0 (nI 0) = M5 at H F ⊢
  refine wp_iload_n (pc := 5) dX9_keep_5 rfl ?_
  refine wp_i2l (pc := 6) dX9_keep_6 ?_
  refine wp_lconst (pc := 7) dX9_keep_7 rfl ?_
  refine wp_lconst (pc := 8) dX9_keep_8 rfl ?_
  refine wf_callSi (pc := 9) dX9_keep_9 cl_X9_72 (c_inR 0 1 rfl (by decide)) rfl rfl (Nat.le_of_ble_eq_true rfl) (by decide) ⟨Nat.le_refl _, Nat.le_refl _⟩ (fun r9 M9 q9 => ?_)
  rw [q9.1, q9.2, rg_inD (by decide)]
  refine wp_if_ne (pc := 12) 17 dX9_keep_12 (by decide) (fun h12 => ?_) (fun h12 => ?_)
  · have h12 := b2i_1 h12
    have h12 : inD x 2 = true := h12
    obtain ⟨i, hi, ei⟩ := inD_of h12 (by decide)
    subst ei
    refine wp_aload_n (pc := 17) dX9_keep_17 rfl ?_
    refine wf_getR (pc := 18) dX9_keep_18 fl_X9_47 lk_150 (H.r 150 21 162 rfl) ?_
    refine wp_iload_n (pc := 21) dX9_keep_21 rfl ?_
    refine wp_ic (pc := 22) (x := nI 1) dX9_keep_22 ic_1 ?_
    refine wf_bast (pc := 23) (j := i) dX9_keep_23 lk_162 rfl rfl hi ?_
    refine wp_ic (pc := 24) (x := nI 0) dX9_keep_24 ic_0 ?_
    refine wp_istore_n (pc := 25) (L' := [_, _, _]) dX9_keep_25 (Nat.le_of_ble_eq_true rfl) rfl rfl ?_
    exact loop i M5 hi H F 25 0 (wI M5 162 i (nI 1)) (by omega) (by omega) (Sm.w (by omega) (by omega)) (fun j => by by_cases e : j = i; subst e; rw [if_pos rfl, wI_at]; rw [if_neg e, wI_nk e]) (fun a ha => wI_na (by decide)) (fun j hj => absurd hj (Nat.not_lt_zero _))
  · have h12 := b2i_0 h12
    have h12 : inD x 2 = false := h12
    refine wp_ic (pc := 15) (x := (-1)) dX9_keep_15 ic_m1 ?_
    refine wf_iret (pc := 16) dX9_keep_16 rfl ?_
    unfold oKeep; rw [if_neg (by rw [h12]; decide)]
    exact ⟨rfl, H, F⟩
theorem cR_chance {l : Launch} {K : CtxT} {M : Mm} {s : Sv} {B : Nat} (H : XM M s) (V : OkV B s) (hB : B ≤ 9999) {y x : Int32} {u : Bool} : Ci l K 2 mX9_chance [.ref (K.1 + 150), .int y, .int x, .int (b2i u)] M (fun r M' => r = oChance s y x u ∧ XM M' s ∧ Fm M M') := by
  refine ci_of (L := [some (.ref (K.1 + 150)), some (.int y), some (.int x), some (.int (b2i u)), none, none, none, none]) (by decide +kernel) (Nat.le_of_ble_eq_true rfl) rfl rfl (fun E => ?_)
  have inner : ∀ (m n : Nat), m < lM s.Λ → n ≤ 24 → ∀ (f : Nat), f ≤ 3 → (∀ M2 z1 z2, XM M2 s → Fm M M2 → Wp E K mX9_chance 2 (0, 0) 36 [some (.ref (K.1 + 150)), some (.int (nI m)), some (.int (nI n)), some (.int (b2i u)), some (.int (nI (abN s m n (f + 1)))), some (.int (nI (f + 1))), z1, z2] [] 168 M2 0 0 (zI E K (fun r M' => r = oChance s (nI m) (nI n) u ∧ XM M' s ∧ Fm M M'))) → ∀ (n' k : Nat) (M1 : Mm), n' = n - k → k ≤ n → XM M1 s → Fm M M1 → MT M1 159 0 (tryP s.Λ s.P s.h f (lLe s.Λ) k).2 → Wp E K mX9_chance 2 (0, 0) 52 [some (.ref (K.1 + 150)), some (.int (nI m)), some (.int (nI n)), some (.int (b2i u)), some (.int (nI (abN s m n f))), some (.int (nI (f))), some (.int (tryP s.Λ s.P s.h f (lLe s.Λ) k).1), some (.int (nI k))] [] 168 M1 0 0 (zI E K (fun r M' => r = oChance s (nI m) (nI n) u ∧ XM M' s ∧ Fm M M')) := by
    intro m n hm hn24 f hf out n'
    have hm5 := V.l.2.1
    have hh := V.h
    induction n' with
    | zero =>
      intro k M1 hn hk H F hd
      refine wp_iload (pc := 52) dX9_chance_52 rfl ?_
      refine wp_iload_n (pc := 54) dX9_chance_54 rfl ?_
      refine wp_icmp_ge (pc := 55) 83 dX9_chance_55 (by decide) (fun h55 => ?_) (fun h55 => ?_)
      · have ek : k = n := by omega
        subst ek
        obtain ⟨o1, a, o2, o3⟩ := tryP_ok V.p V.l.N f (lLe s.Λ) k
        refine wp_iload (pc := 83) dX9_chance_83 rfl ?_
        refine wp_iload (pc := 85) dX9_chance_85 rfl ?_
        refine wp_iload_n (pc := 87) dX9_chance_87 rfl ?_
        refine wp_ishr (pc := 88) dX9_chance_88 ?_
        refine wp_ic (pc := 89) (x := nI 1) dX9_chance_89 ic_1 ?_
        refine wp_iand (pc := 90) dX9_chance_90 ?_
        refine wp_iadd (pc := 91) dX9_chance_91 ?_
        refine wp_top (nI (abN s m k (f + 1))) (by rw [o3]; show nI (abN s m k f) + bat (nI a) m = _; rw [bat_nI o2 (by omega), nI_add]; show _ = nI (abN s m k f + (tryP s.Λ s.P s.h f (lLe s.Λ) k).1.toNatClampNeg / 2 ^ m % 2); rw [o3, nI_cl (by omega)]) ?_
        refine wp_istore (pc := 92) (L' := [_, _, _, _, _, _, _, _]) dX9_chance_92 (Nat.le_of_ble_eq_true rfl) rfl rfl ?_
        refine wp_iinc1 (pc := 94) (L' := [_, _, _, _, _, _, _, _]) dX9_chance_94 rfl rfl rfl ?_
        refine wp_goto (pc := 97) 36 dX9_chance_97 (by decide) ?_
        exact out M1 _ _ H F
      · exact absurd (nI_le (by omega) (by omega)) h55
    | succ n' ih =>
      intro k M1 hn hk H F hd
      obtain ⟨o1, a, o2, o3⟩ := tryP_ok V.p V.l.N f (lLe s.Λ) k
      refine wp_iload (pc := 52) dX9_chance_52 rfl ?_
      refine wp_iload_n (pc := 54) dX9_chance_54 rfl ?_
      refine wp_icmp_ge (pc := 55) 83 dX9_chance_55 (by decide) (fun h55 => ?_) (fun h55 => ?_)
      · exact absurd h55 (nI_ge (by omega) (by omega))
      · refine wp_iload (pc := 58) dX9_chance_58 rfl ?_
        refine wp_aload_n (pc := 60) dX9_chance_60 rfl ?_
        refine wp_aload_n (pc := 61) dX9_chance_61 rfl ?_
        refine wf_getR (pc := 62) dX9_chance_62 fl_X9_38 lk_150 (H.r 150 17 159 rfl) ?_
        refine wp_aload_n (pc := 65) dX9_chance_65 rfl ?_
        refine wf_getI (pc := 66) dX9_chance_66 fl_X9_13 lk_150 ?_
        rw [H.w.2.2.1]
        refine wp_iload (pc := 69) dX9_chance_69 rfl ?_
        refine wf_callVi (pc := 71) dX9_chance_71 cl_X9_176 (c_goHourR H.r V.l.N H.w (p := 159) rfl hd (by decide) o1 (by omega)) lk_150 rfl rfl rfl rfl (Nat.le_of_ble_eq_true rfl) (by decide) ⟨Nat.le_refl _, Nat.le_refl _⟩ (fun r71 M71 q71 => ?_)
        rw [q71.1]
        have F := F.tr (q71.2.2.fm (by decide))
        have H := H.scr q71.2.2 (by omega)
        refine wp_ior (pc := 74) dX9_chance_74 ?_
        refine wp_istore (pc := 75) (L' := [_, _, _, _, _, _, _, _]) dX9_chance_75 (Nat.le_of_ble_eq_true rfl) rfl rfl ?_
        refine wp_iinc1 (pc := 77) (L' := [_, _, _, _, _, _, _, _]) dX9_chance_77 rfl rfl rfl ?_
        refine wp_goto (pc := 80) 52 dX9_chance_80 (by decide) ?_
        exact ih (k + 1) M71 (by omega) (by omega) H F q71.2.1
  have outer : ∀ (m n : Nat), m < lM s.Λ → n ≤ 24 → ∀ (n' f : Nat) (M1 : Mm) (z1 z2 : Option Value), n' = 4 - f → f ≤ 4 → XM M1 s → Fm M M1 → Wp E K mX9_chance 2 (0, 0) 36 [some (.ref (K.1 + 150)), some (.int (nI m)), some (.int (nI n)), some (.int (b2i u)), some (.int (nI (abN s m n f))), some (.int (nI (f))), z1, z2] [] 168 M1 0 0 (zI E K (fun r M' => r = oChance s (nI m) (nI n) u ∧ XM M' s ∧ Fm M M')) := by
    intro m n hm hn n'
    have hm5 := V.l.2.1
    induction n' with
    | zero =>
      intro f M1 z1 z2 hn1 hk H F
      refine wp_iload (pc := 36) dX9_chance_36 rfl ?_
      refine wp_ic (pc := 38) (x := nI 4) dX9_chance_38 ic_4 ?_
      refine wp_icmp_ge (pc := 39) 100 dX9_chance_39 (by decide) (fun h39 => ?_) (fun h39 => ?_)
      · have e : f = 4 := by omega
        subst e
        refine wp_iload (pc := 100) dX9_chance_100 rfl ?_
        refine wp_ic (pc := 102) (x := nI 4) dX9_chance_102 ic_4 ?_
        refine wp_irem (pc := 103) dX9_chance_103 (by decide) ?_
        refine wp_if_ne (pc := 104) 111 dX9_chance_104 (by decide) (fun h104 => ?_) (fun h104 => ?_)
        · refine wp_iload (pc := 111) dX9_chance_111 rfl ?_
          refine wp_ic (pc := 113) (x := nI 2) dX9_chance_113 ic_2 ?_
          refine wp_icmp_ne (pc := 114) 121 dX9_chance_114 (by decide) (fun h114 => ?_) (fun h114 => ?_)
          · refine wp_ic (pc := 121) (x := nI 1) dX9_chance_121 ic_1 ?_
            refine wp_istore (pc := 122) (L' := [_, _, _, _, _, _, _, _]) dX9_chance_122 (Nat.le_of_ble_eq_true rfl) rfl rfl ?_
            refine wp_iload_n (pc := 124) dX9_chance_124 rfl ?_
            refine wp_if_eq (pc := 125) 136 dX9_chance_125 (by decide) (fun h125 => ?_) (fun h125 => ?_)
            · have h125 := b2i_0 h125
              refine wp_ic (pc := 136) (x := nI 4) dX9_chance_136 ic_4 ?_
              refine wp_iload (pc := 137) dX9_chance_137 rfl ?_
              refine wp_idiv (pc := 139) dX9_chance_139 (by decide) ?_
              refine wf_iret (pc := 140) dX9_chance_140 rfl ?_
              unfold oChance
              rw [if_pos (inD_nI (by omega) hm), if_pos (rg_y (nI_nlt (Nat.zero_le _) (by omega)) (nI_nlt hn (by omega))), nI_cl (by omega), nI_cl (by omega)]
              refine ⟨?_, H, F⟩
              have hA := abN_le s m n 4
              generalize abN s m n 4 = A at *
              rw [h125]
              rcases (show A = 0 ∨ A = 1 ∨ A = 2 ∨ A = 3 ∨ A = 4 by omega) with e | e | e | e | e <;> subst e <;> first | decide | (exact absurd h104 (by decide)) | (exact absurd h114 (by decide))
            · have h125 := b2i_1 h125
              refine wp_iload (pc := 128) dX9_chance_128 rfl ?_
              refine wp_iload (pc := 130) dX9_chance_130 rfl ?_
              refine wp_idiv (pc := 132) dX9_chance_132 (by decide) ?_
              refine wp_goto (pc := 133) 140 dX9_chance_133 (by decide) ?_
              refine wf_iret (pc := 140) dX9_chance_140 rfl ?_
              unfold oChance
              rw [if_pos (inD_nI (by omega) hm), if_pos (rg_y (nI_nlt (Nat.zero_le _) (by omega)) (nI_nlt hn (by omega))), nI_cl (by omega), nI_cl (by omega)]
              refine ⟨?_, H, F⟩
              have hA := abN_le s m n 4
              generalize abN s m n 4 = A at *
              rw [h125]
              rcases (show A = 0 ∨ A = 1 ∨ A = 2 ∨ A = 3 ∨ A = 4 by omega) with e | e | e | e | e <;> subst e <;> first | decide | (exact absurd h104 (by decide)) | (exact absurd h114 (by decide))
          · refine wp_ic (pc := 117) (x := nI 2) dX9_chance_117 ic_2 ?_
            refine wp_goto (pc := 118) 122 dX9_chance_118 (by decide) ?_
            refine wp_istore (pc := 122) (L' := [_, _, _, _, _, _, _, _]) dX9_chance_122 (Nat.le_of_ble_eq_true rfl) rfl rfl ?_
            refine wp_iload_n (pc := 124) dX9_chance_124 rfl ?_
            refine wp_if_eq (pc := 125) 136 dX9_chance_125 (by decide) (fun h125 => ?_) (fun h125 => ?_)
            · have h125 := b2i_0 h125
              refine wp_ic (pc := 136) (x := nI 4) dX9_chance_136 ic_4 ?_
              refine wp_iload (pc := 137) dX9_chance_137 rfl ?_
              refine wp_idiv (pc := 139) dX9_chance_139 (by decide) ?_
              refine wf_iret (pc := 140) dX9_chance_140 rfl ?_
              unfold oChance
              rw [if_pos (inD_nI (by omega) hm), if_pos (rg_y (nI_nlt (Nat.zero_le _) (by omega)) (nI_nlt hn (by omega))), nI_cl (by omega), nI_cl (by omega)]
              refine ⟨?_, H, F⟩
              have hA := abN_le s m n 4
              generalize abN s m n 4 = A at *
              rw [h125]
              rcases (show A = 0 ∨ A = 1 ∨ A = 2 ∨ A = 3 ∨ A = 4 by omega) with e | e | e | e | e <;> subst e <;> first | decide | (exact absurd h104 (by decide)) | (exact absurd h114 (by decide))
            · have h125 := b2i_1 h125
              refine wp_iload (pc := 128) dX9_chance_128 rfl ?_
              refine wp_iload (pc := 130) dX9_chance_130 rfl ?_
              refine wp_idiv (pc := 132) dX9_chance_132 (by decide) ?_
              refine wp_goto (pc := 133) 140 dX9_chance_133 (by decide) ?_
              refine wf_iret (pc := 140) dX9_chance_140 rfl ?_
              unfold oChance
              rw [if_pos (inD_nI (by omega) hm), if_pos (rg_y (nI_nlt (Nat.zero_le _) (by omega)) (nI_nlt hn (by omega))), nI_cl (by omega), nI_cl (by omega)]
              refine ⟨?_, H, F⟩
              have hA := abN_le s m n 4
              generalize abN s m n 4 = A at *
              rw [h125]
              rcases (show A = 0 ∨ A = 1 ∨ A = 2 ∨ A = 3 ∨ A = 4 by omega) with e | e | e | e | e <;> subst e <;> first | decide | (exact absurd h104 (by decide)) | (exact absurd h114 (by decide))
        · refine wp_ic (pc := 107) (x := nI 4) dX9_chance_107 ic_4 ?_
          refine wp_goto (pc := 108) 122 dX9_chance_108 (by decide) ?_
          refine wp_istore (pc := 122) (L' := [_, _, _, _, _, _, _, _]) dX9_chance_122 (Nat.le_of_ble_eq_true rfl) rfl rfl ?_
          refine wp_iload_n (pc := 124) dX9_chance_124 rfl ?_
          refine wp_if_eq (pc := 125) 136 dX9_chance_125 (by decide) (fun h125 => ?_) (fun h125 => ?_)
          · have h125 := b2i_0 h125
            refine wp_ic (pc := 136) (x := nI 4) dX9_chance_136 ic_4 ?_
            refine wp_iload (pc := 137) dX9_chance_137 rfl ?_
            refine wp_idiv (pc := 139) dX9_chance_139 (by decide) ?_
            refine wf_iret (pc := 140) dX9_chance_140 rfl ?_
            unfold oChance
            rw [if_pos (inD_nI (by omega) hm), if_pos (rg_y (nI_nlt (Nat.zero_le _) (by omega)) (nI_nlt hn (by omega))), nI_cl (by omega), nI_cl (by omega)]
            refine ⟨?_, H, F⟩
            have hA := abN_le s m n 4
            generalize abN s m n 4 = A at *
            rw [h125]
            rcases (show A = 0 ∨ A = 1 ∨ A = 2 ∨ A = 3 ∨ A = 4 by omega) with e | e | e | e | e <;> subst e <;> first | decide | (exact absurd h104 (by decide)) | (exact absurd h114 (by decide))
          · have h125 := b2i_1 h125
            refine wp_iload (pc := 128) dX9_chance_128 rfl ?_
            refine wp_iload (pc := 130) dX9_chance_130 rfl ?_
            refine wp_idiv (pc := 132) dX9_chance_132 (by decide) ?_
            refine wp_goto (pc := 133) 140 dX9_chance_133 (by decide) ?_
            refine wf_iret (pc := 140) dX9_chance_140 rfl ?_
            unfold oChance
            rw [if_pos (inD_nI (by omega) hm), if_pos (rg_y (nI_nlt (Nat.zero_le _) (by omega)) (nI_nlt hn (by omega))), nI_cl (by omega), nI_cl (by omega)]
            refine ⟨?_, H, F⟩
            have hA := abN_le s m n 4
            generalize abN s m n 4 = A at *
            rw [h125]
            rcases (show A = 0 ∨ A = 1 ∨ A = 2 ∨ A = 3 ∨ A = 4 by omega) with e | e | e | e | e <;> subst e <;> first | decide | (exact absurd h104 (by decide)) | (exact absurd h114 (by decide))
      · exact absurd (nI_le (by omega) (by omega)) h39
    | succ n' ih =>
      intro f M1 z1 z2 hn1 hk H F
      refine wp_iload (pc := 36) dX9_chance_36 rfl ?_
      refine wp_ic (pc := 38) (x := nI 4) dX9_chance_38 ic_4 ?_
      refine wp_icmp_ge (pc := 39) 100 dX9_chance_39 (by decide) (fun h39 => ?_) (fun h39 => ?_)
      · exact absurd h39 (nI_ge (by omega) (by omega))
      · refine wp_aload_n (pc := 42) dX9_chance_42 rfl ?_
        refine wf_callVv (pc := 43) dX9_chance_43 cl_X9_182 (c_begin H.r H.p) lk_150 rfl rfl rfl rfl (Nat.le_of_ble_eq_true rfl) (by decide) ⟨Nat.le_refl _, Nat.le_refl _⟩ (fun M43 q43 => ?_)
        have F := F.tr (q43.2.fm (by decide))
        have H := H.scr q43.2 (by omega)
        refine wp_ic (pc := 46) (x := nI 0) dX9_chance_46 ic_0 ?_
        refine wp_istore (pc := 47) (L' := [_, _, _, _, _, _, _, _]) dX9_chance_47 (Nat.le_of_ble_eq_true rfl) rfl rfl ?_
        refine wp_ic (pc := 49) (x := nI 0) dX9_chance_49 ic_0 ?_
        refine wp_istore (pc := 50) (L' := [_, _, _, _, _, _, _, _]) dX9_chance_50 (Nat.le_of_ble_eq_true rfl) rfl rfl ?_
        exact inner m n hm hn f (by omega) (fun M2 z1 z2 H2 F2 => ih (f + 1) M2 z1 z2 (by omega) (by omega) H2 F2) n 0 M43 (by omega) (by omega) H F q43.1
  refine wp_aload_n (pc := 0) dX9_chance_0 rfl ?_
  refine wp_ic (pc := 1) (x := nI 0) dX9_chance_1 ic_0 ?_
  refine wf_putI (pc := 2) dX9_chance_2 fl_X9_66 lk_150 ?_
  have F : Fm M (wI M 150 0 (nI 0)) := Fm.w (by decide)
  have H := H.f (k := 0) (nI 0) (by decide)
  generalize wI M 150 0 (nI 0) = M5 at H F ⊢
  refine wp_aload_n (pc := 5) dX9_chance_5 rfl ?_
  refine wp_iload_n (pc := 6) dX9_chance_6 rfl ?_
  refine wf_callVi (pc := 7) dX9_chance_7 cl_X9_161 (c_noMan H.r V.l.N H.w) lk_150 rfl rfl rfl rfl (Nat.le_of_ble_eq_true rfl) (by decide) ⟨Nat.le_refl _, Nat.le_refl _⟩ (fun r7 M7 q7 => ?_)
  rw [q7.1, q7.2]
  refine wp_if_eq (pc := 10) 15 dX9_chance_10 (by decide) (fun h10 => ?_) (fun h10 => ?_)
  · have h10 := b2i_0 h10
    have h10 : inD y (lM s.Λ) = true := by simpa using h10
    obtain ⟨m, hm, em⟩ := inD_of (by assumption) (show lM s.Λ < 2 ^ 31 by have := V.l.N.2.1; omega)
    have hm4 : m < 5 := Nat.lt_of_lt_of_le hm V.l.N.2.1
    subst em
    refine wp_iload_n (pc := 15) dX9_chance_15 rfl ?_
    refine wp_i2l (pc := 16) dX9_chance_16 ?_
    refine wp_lconst (pc := 17) dX9_chance_17 rfl ?_
    refine wp_ldc2 (pc := 18) dX9_chance_18 kc_X9_180 ?_
    refine wf_callSi (pc := 21) dX9_chance_21 cl_X9_72 (c_inR 0 24 rfl (by decide)) rfl rfl (Nat.le_of_ble_eq_true rfl) (by decide) ⟨Nat.le_refl _, Nat.le_refl _⟩ (fun r21 M21 q21 => ?_)
    rw [q21.1, q21.2]
    refine wp_if_ne (pc := 24) 30 dX9_chance_24 (by decide) (fun h24 => ?_) (fun h24 => ?_)
    · have h24 := b2i_1 h24
      obtain ⟨n, -, hn, ex⟩ := rg_of h24 (by decide) (by decide)
      subst ex
      refine wp_ic (pc := 30) (x := nI 0) dX9_chance_30 ic_0 ?_
      refine wp_istore (pc := 31) (L' := [_, _, _, _, _, _, _, _]) dX9_chance_31 (Nat.le_of_ble_eq_true rfl) rfl rfl ?_
      refine wp_ic (pc := 33) (x := nI 0) dX9_chance_33 ic_0 ?_
      refine wp_istore (pc := 34) (L' := [_, _, _, _, _, _, _, _]) dX9_chance_34 (Nat.le_of_ble_eq_true rfl) rfl rfl ?_
      exact outer m n hm hn 4 0 M5 none none (by omega) (by omega) H F
    · have h24 := b2i_0 h24
      refine wp_bipush (pc := 27) (x := (-2)) dX9_chance_27 bp_m2 ?_
      refine wf_iret (pc := 29) dX9_chance_29 rfl ?_
      unfold oChance; rw [if_pos h10, h24]
      exact ⟨rfl, H, F⟩
  · have h10 := b2i_1 h10
    have h10 : inD y (lM s.Λ) = false := by simpa using h10
    refine wp_ic (pc := 13) (x := (-1)) dX9_chance_13 ic_m1 ?_
    refine wf_iret (pc := 14) dX9_chance_14 rfl ?_
    unfold oChance; rw [if_neg (by rw [h10]; decide)]
    exact ⟨rfl, H, F⟩
