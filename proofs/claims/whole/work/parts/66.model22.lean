theorem PO.b {σ0 : Rs} {T : Pg} {n k : Nat} {M M' : Mm} {r : Int32} (h : PO σ0 T n M k r M') : ∃ b, r = b2i b := by
  rcases h.2 with ⟨h, _⟩ | ⟨h, _⟩
  · exact ⟨false, h⟩
  · exact ⟨true, h⟩
theorem cf_step {Λ : Lw} {i f : Nat} (hA : AcL Λ) (hi : i < lD Λ) (hne : i ≠ f) : cfN (pq (lPa Λ)) (lD Λ) 4 ((pq (lPa Λ)) i) f = cfN (pq (lPa Λ)) (lD Λ) 4 i f := by
  have h := hA i hi
  have e := cfN_more 4 i f h
  rw [← e]
  show _ = if i < (lD Λ) then (if i = f then true else cfN (pq (lPa Λ)) (lD Λ) 4 ((pq (lPa Λ)) i) f) else false
  rw [if_pos hi, if_neg hne]
theorem rt_step {Λ : Lw} {i : Nat} (hA : AcL Λ) (hi : i < lD Λ) : rtB (pq (lPa Λ)) (lD Λ) 3 ((pq (lPa Λ)) i) = true := by
  have h := hA i hi
  unfold rtB at h
  rwa [if_pos hi] at h
theorem XQ_pa {M : Mm} {Λ : Lw} {P : Pg} {f : Nat} {x : Int32} (h : XQ M Λ P) : XQ (wI M 156 (4 * f + 3) x) (lwPa Λ (upd (lPa Λ) f x)) P := by
  obtain ⟨h1, h5, h6, h7⟩ := h
  refine ⟨h1, h5, fun d hd => ?_, h7⟩
  have hd : d < lD Λ := hd
  obtain ⟨g1, g2, g3, g4⟩ := h6 d hd
  refine ⟨(wI_nk (by omega)).trans g1, (wI_nk (by omega)).trans g2, (wI_nk (by omega)).trans g3, ?_⟩
  show _ = upd (lPa Λ) f x d
  by_cases e : d = f
  · subst e; rw [wI_at, upd_at]
  · rw [wI_nk (by omega), upd_n e]; exact g4
theorem pq_nI {pa : Pg} {f p x : Nat} (hp : p < 4) : pq (upd pa f (nI p)) x = if x = f then p else pq pa x := by
  by_cases e : x = f
  · subst e
    rw [if_pos rfl]
    unfold pq
    rw [upd_at, if_neg (nI_n9 (by omega)), nI_cl (by omega)]
  · rw [if_neg e, pq_upd _ e]
theorem OkF_pa {Λ : Lw} {P : Pg} {f p : Nat} (h : OkF Λ P) (hp : p < lD Λ) (hf : f < lD Λ) (hy : yoq (pq (lPa Λ)) (lD Λ) p f = true) : OkF (lwPa Λ (upd (lPa Λ) f (nI p))) P := by
  have hok := okq_of h.1 h.2.1
  have hpf := (par_facts h.1.1 hok).2 p f hp hf hy
  obtain ⟨⟨l1, l2, l3, l4, l5, l6⟩, hA, h1, h2, z⟩ := h
  refine ⟨⟨l1, l2, l3, l4, fun d hd => ?_, l6⟩, fun d hd => ?_, h1, h2, z⟩
  · have hd : d < lD Λ := hd
    obtain ⟨g1, g2, g3⟩ := l5 d hd
    refine ⟨g1, g2, ?_⟩
    show upd (lPa Λ) f (nI p) d = no9 ∨ ∃ q, q < lD Λ ∧ upd (lPa Λ) f (nI p) d = nI q
    by_cases e : d = f
    · subst e; rw [upd_at]; exact Or.inr ⟨p, hp, rfl⟩
    · rw [upd_n e]; exact g3
  · have hd : d < lD Λ := hd
    have w := allN_at hpf hd
    simp only [Bool.and_eq_true] at w
    show rtB (pq (upd (lPa Λ) f (nI p))) (lD Λ) 4 d = true
    rw [rtB_cg (q' := fun x => if x = f then p else pq (lPa Λ) x) (fun k _ => pq_nI (by omega))]
    exact w.2
theorem tkP_1 {f q : Nat} {Λ : Lw} : tkP 1 f q Λ = if f < lD Λ then some (f, Λ) else none := by
  unfold tkP
  by_cases h : f < lD Λ
  · rw [if_neg (by omega), if_pos rfl, if_pos h]
  · rw [if_pos h, if_neg h]
theorem tkP_2 {f p : Nat} {Λ : Lw} (hL : OkL Λ) : tkP 2 f p Λ = if f < lD Λ ∧ yoq (pq (lPa Λ)) (lD Λ) p f = true then some (p, lwPa Λ (upd (lPa Λ) f (nI p))) else none := by
  unfold tkP
  by_cases h : f < lD Λ
  · rw [if_neg (by omega), if_neg (by decide)]
    obtain ⟨e, _⟩ := pq_ok hL.pa hL.N h
    have h9 : lPa Λ f = no9 ↔ pq (lPa Λ) f = 9 := by
      unfold pq
      by_cases q : lPa Λ f = no9
      · rw [if_pos q]; exact ⟨fun _ => rfl, fun _ => q⟩
      · rw [if_neg q]
        rcases hL.pa f h with w | ⟨x, hx, w⟩
        · exact absurd w q
        · rw [w, nI_cl (by have := hL.1; omega)]
          constructor
          · intro z; exact absurd z (nI_n9 (by have := hL.1; omega))
          · intro z; have := hL.1; omega
    have hc : (p ≠ f ∧ lPa Λ f = no9 ∧ cfN (pq (lPa Λ)) (lD Λ) 4 p f = false) ↔ f < lD Λ ∧ yoq (pq (lPa Λ)) (lD Λ) p f = true := by
      unfold yoq
      rw [h9, Bool.and_eq_true, Bool.and_eq_true, Bool.not_eq_true', Bool.not_eq_true', decide_eq_false_iff_not, decide_eq_true_eq]
      constructor
      · rintro ⟨g1, g2, g3⟩; exact ⟨h, fun q => g1 q.symm, g2, g3⟩
      · rintro ⟨_, g1, g2, g3⟩; exact ⟨fun q => g1 q.symm, g2, g3⟩
    by_cases q : f < lD Λ ∧ yoq (pq (lPa Λ)) (lD Λ) p f = true
    · rw [if_pos q, if_pos (hc.mpr q)]
    · rw [if_neg q, if_neg (fun w => q (hc.mp w))]
  · rw [if_pos h, if_neg (fun q => h q.1)]
theorem c_comes {l : Launch} {K : CtxT} {M : Mm} {Λ : Lw} {P : Pg} (hR : RS M) (hL : OkL Λ) (hA : AcL Λ) (hX : XQ M Λ P) {i f : Nat} (hi : i < lD Λ) (hf : f < lD Λ) (hne : i ≠ f) : Ci l K 0 mX9_comes [.ref (K.1 + 150), .int (nI i), .int (nI f)] M (fun r M' => r = b2i (cfN (pq (lPa Λ)) (lD Λ) 4 i f) ∧ M' = M) := by
  refine ci_of (L := [some (.ref (K.1 + 150)), some (.int (nI i)), some (.int (nI f)), none]) (by decide +kernel) (Nat.le_of_ble_eq_true rfl) rfl rfl (fun E => ?_)
  have hD := hL.1
  have loop : ∀ (n x : Nat), (x = 9 ∨ x < lD Λ) → rtB (pq (lPa Λ)) (lD Λ) n x = true → cfN (pq (lPa Λ)) (lD Λ) (n + 1) x f = cfN (pq (lPa Λ)) (lD Λ) 4 i f → Wp E K mX9_comes 0 (0, 0) 11 [some (.ref (K.1 + 150)), some (.int (nI i)), some (.int (nI f)), some (.int (nv x))] [] 168 M 0 0 (zI E K (fun r M' => r = b2i (cfN (pq (lPa Λ)) (lD Λ) 4 i f) ∧ M' = M)) := by
    intro n
    induction n with
    | zero =>
      intro x hx hr he
      unfold rtB at hr
      simp only [Bool.not_eq_true', decide_eq_false_iff_not] at hr
      obtain rfl : x = 9 := by omega
      have he : false = cfN (pq (lPa Λ)) (lD Λ) 4 i f := by rw [← he]; unfold cfN; rw [if_neg (by omega)]
      rw [nv_9]
      refine wp_iload_n (pc := 11) dX9_comes_11 rfl ?_
      refine wp_bipush (pc := 12) (x := (-9)) dX9_comes_12 bp_m9 ?_
      refine wp_icmp_eq (pc := 14) 36 dX9_comes_14 (by decide) (fun h14 => ?_) (fun h14 => ?_)
      · refine wp_iload_n (pc := 36) dX9_comes_36 rfl ?_
        refine wp_iload_n (pc := 37) dX9_comes_37 rfl ?_
        refine wp_icmp_ne (pc := 38) 45 dX9_comes_38 (by decide) (fun h38 => ?_) (fun h38 => ?_)
        · refine wp_ic (pc := 45) (x := nI 0) dX9_comes_45 ic_0 ?_
          refine wf_zret (pc := 46) (false) dX9_comes_46 rfl rfl ?_
          rw [← he]; exact ⟨rfl, rfl⟩
        · exact absurd h38.symm (nI_n9 (by omega))
      · exact absurd rfl h14
    | succ n ih =>
      intro x hx hr he
      rcases hx with rfl | hx
      · have he : false = cfN (pq (lPa Λ)) (lD Λ) 4 i f := by rw [← he]; unfold cfN; rw [if_neg (by omega)]
        rw [nv_9]
        refine wp_iload_n (pc := 11) dX9_comes_11 rfl ?_
        refine wp_bipush (pc := 12) (x := (-9)) dX9_comes_12 bp_m9 ?_
        refine wp_icmp_eq (pc := 14) 36 dX9_comes_14 (by decide) (fun h14 => ?_) (fun h14 => ?_)
        · refine wp_iload_n (pc := 36) dX9_comes_36 rfl ?_
          refine wp_iload_n (pc := 37) dX9_comes_37 rfl ?_
          refine wp_icmp_ne (pc := 38) 45 dX9_comes_38 (by decide) (fun h38 => ?_) (fun h38 => ?_)
          · refine wp_ic (pc := 45) (x := nI 0) dX9_comes_45 ic_0 ?_
            refine wf_zret (pc := 46) (false) dX9_comes_46 rfl rfl ?_
            rw [← he]; exact ⟨rfl, rfl⟩
          · exact absurd h38.symm (nI_n9 (by omega))
        · exact absurd rfl h14
      · unfold rtB at hr
        rw [if_pos hx] at hr
        rw [nv_n (show x ≠ 9 by omega)]
        refine wp_iload_n (pc := 11) dX9_comes_11 rfl ?_
        refine wp_bipush (pc := 12) (x := (-9)) dX9_comes_12 bp_m9 ?_
        refine wp_icmp_eq (pc := 14) 36 dX9_comes_14 (by decide) (fun h14 => ?_) (fun h14 => ?_)
        · exact absurd h14 (nI_n9 (by omega))
        · refine wp_iload_n (pc := 17) dX9_comes_17 rfl ?_
          refine wp_iload_n (pc := 18) dX9_comes_18 rfl ?_
          refine wp_icmp_eq (pc := 19) 36 dX9_comes_19 (by decide) (fun h19 => ?_) (fun h19 => ?_)
          · have exf : x = f := (nI_eq (by omega) (by omega)).mp h19
            refine wp_iload_n (pc := 36) dX9_comes_36 rfl ?_
            refine wp_iload_n (pc := 37) dX9_comes_37 rfl ?_
            refine wp_icmp_ne (pc := 38) 45 dX9_comes_38 (by decide) (fun h38 => ?_) (fun h38 => ?_)
            · exact absurd h19 h38
            · refine wp_ic (pc := 41) (x := nI 1) dX9_comes_41 ic_1 ?_
              refine wp_goto (pc := 42) 46 dX9_comes_42 (by decide) ?_
              refine wf_zret (pc := 46) (true) dX9_comes_46 rfl rfl ?_
              rw [← he, show cfN (pq (lPa Λ)) (lD Λ) (n + 1 + 1) x f = if x < (lD Λ) then (if x = f then true else cfN (pq (lPa Λ)) (lD Λ) (n + 1) ((pq (lPa Λ)) x) f) else false from rfl, if_pos hx, if_pos exf]
              exact ⟨rfl, rfl⟩
          · have exf : ¬ x = f := fun q => h19 (by rw [q])
            refine wp_aload_n (pc := 22) dX9_comes_22 rfl ?_
            refine wf_getR (pc := 23) dX9_comes_23 fl_X9_29 lk_150 (hR 150 14 156 rfl) ?_
            refine wp_ic (pc := 26) (x := nI 4) dX9_comes_26 ic_4 ?_
            refine wp_iload_n (pc := 27) dX9_comes_27 rfl ?_
            refine wp_imul (pc := 28) dX9_comes_28 ?_
            refine wp_ic (pc := 29) (x := nI 3) dX9_comes_29 ic_3 ?_
            refine wp_iadd (pc := 30) dX9_comes_30 ?_
            refine wf_iald (pc := 31) (j := (4 * x + 3)) dX9_comes_31 lk_156 (by rw [pk_mul, nI_add]) (by omega) ?_
            rw [show M.1 156 (4 * x + 3) = nv ((pq (lPa Λ)) x) from (hX.2.2.1 x hx).2.2.2.trans (pq_ok hL.pa hL.N hx).1]
            refine wp_istore_n (pc := 32) (L' := [_, _, _, _]) dX9_comes_32 (Nat.le_of_ble_eq_true rfl) rfl rfl ?_
            refine wp_goto (pc := 33) 11 dX9_comes_33 (by decide) ?_
            exact ih ((pq (lPa Λ)) x) (pq_ok hL.pa hL.N hx).2 hr (by rw [← he, show cfN (pq (lPa Λ)) (lD Λ) (n + 1 + 1) x f = if x < (lD Λ) then (if x = f then true else cfN (pq (lPa Λ)) (lD Λ) (n + 1) ((pq (lPa Λ)) x) f) else false from rfl, if_pos hx, if_neg exf])
  refine wp_aload_n (pc := 0) dX9_comes_0 rfl ?_
  refine wf_getR (pc := 1) dX9_comes_1 fl_X9_29 lk_150 (hR 150 14 156 rfl) ?_
  refine wp_ic (pc := 4) (x := nI 4) dX9_comes_4 ic_4 ?_
  refine wp_iload_n (pc := 5) dX9_comes_5 rfl ?_
  refine wp_imul (pc := 6) dX9_comes_6 ?_
  refine wp_ic (pc := 7) (x := nI 3) dX9_comes_7 ic_3 ?_
  refine wp_iadd (pc := 8) dX9_comes_8 ?_
  refine wf_iald (pc := 9) (j := (4 * i + 3)) dX9_comes_9 lk_156 (by rw [pk_mul, nI_add]) (by omega) ?_
  rw [show M.1 156 (4 * i + 3) = nv ((pq (lPa Λ)) i) from (hX.2.2.1 i hi).2.2.2.trans (pq_ok hL.pa hL.N hi).1]
  refine wp_istore_n (pc := 10) (L' := [_, _, _, _]) dX9_comes_10 (Nat.le_of_ble_eq_true rfl) rfl rfl ?_
  exact loop 3 ((pq (lPa Λ)) i) (pq_ok hL.pa hL.N hi).2 (rt_step hA hi) (cf_step hA hi hne)
theorem c_young {l : Launch} {K : CtxT} {M : Mm} {Λ : Lw} {P : Pg} (hR : RS M) (hL : OkL Λ) (hA : AcL Λ) (hX : XQ M Λ P) {i : Nat} (hi : i < lD Λ) : Ci l K 1 mX9_young [.ref (K.1 + 150), .int (nI i)] M (fun r M' => r = nI (mkN (yoq (pq (lPa Λ)) (lD Λ) i) (lD Λ)) ∧ M' = M) := by
  refine ci_of (L := [some (.ref (K.1 + 150)), some (.int (nI i)), none, none]) (by decide +kernel) (Nat.le_of_ble_eq_true rfl) rfl rfl (fun E => ?_)
  have hD := hL.1
  have loop : ∀ (n j : Nat), n = lD Λ - j → j ≤ lD Λ → Wp E K mX9_young 1 (0, 0) 4 [some (.ref (K.1 + 150)), some (.int (nI i)), some (.int (nI (mkN (yoq (pq (lPa Λ)) (lD Λ) i) j))), some (.int (nI j))] [] 168 M 0 0 (zI E K (fun r M' => r = nI (mkN (yoq (pq (lPa Λ)) (lD Λ) i) (lD Λ)) ∧ M' = M)) := by
    intro n
    induction n with
    | zero =>
      intro j hn hm
      refine wp_iload_n (pc := 4) dX9_young_4 rfl ?_
      refine wp_aload_n (pc := 5) dX9_young_5 rfl ?_
      refine wf_getI (pc := 6) dX9_young_6 fl_X9_100 lk_150 ?_
      rw [hX.1.1]
      refine wp_icmp_ge (pc := 9) 57 dX9_young_9 (by decide) (fun h9 => ?_) (fun h9 => ?_)
      · refine wp_iload_n (pc := 57) dX9_young_57 rfl ?_
        refine wf_iret (pc := 58) dX9_young_58 rfl ?_
        exact ⟨by rw [show j = lD Λ by omega], rfl⟩
      · exact absurd (nI_le (by omega) (by omega)) h9
    | succ n ih =>
      intro j hn hm
      obtain ⟨pe, pl⟩ := pq_ok hL.pa hL.N (show j < lD Λ by omega)
      refine wp_iload_n (pc := 4) dX9_young_4 rfl ?_
      refine wp_aload_n (pc := 5) dX9_young_5 rfl ?_
      refine wf_getI (pc := 6) dX9_young_6 fl_X9_100 lk_150 ?_
      rw [hX.1.1]
      refine wp_icmp_ge (pc := 9) 57 dX9_young_9 (by decide) (fun h9 => ?_) (fun h9 => ?_)
      · exact absurd h9 (nI_ge (by omega) (by omega))
      · refine wp_iload_n (pc := 12) dX9_young_12 rfl ?_
        refine wp_iload_n (pc := 13) dX9_young_13 rfl ?_
        refine wp_iload_n (pc := 14) dX9_young_14 rfl ?_
        refine wp_icmp_eq (pc := 15) 48 dX9_young_15 (by decide) (fun h15 => ?_) (fun h15 => ?_)
        · have ey : (yoq (pq (lPa Λ)) (lD Λ) i) j = false := by unfold yoq; rw [decide_eq_true ((nI_eq (by omega) (by omega)).mp h15)]; rfl
          refine wp_ic (pc := 48) (x := nI 0) dX9_young_48 ic_0 ?_
          refine wp_ior (pc := 49) dX9_young_49 ?_
          first | rw [or_bit (show j < 5 by omega)] | rw [or_nI, Nat.or_zero]
          refine wp_istore_n (pc := 50) (L' := [_, _, _, _]) dX9_young_50 (Nat.le_of_ble_eq_true rfl) rfl rfl ?_
          refine wp_iinc1 (pc := 51) (L' := [_, _, _, _]) dX9_young_51 rfl rfl rfl ?_
          refine wp_goto (pc := 54) 4 dX9_young_54 (by decide) ?_
          have := ih (j + 1) (by omega) (by omega)
          first | (rw [show mkN (yoq (pq (lPa Λ)) (lD Λ) i) (j + 1) = mkN (yoq (pq (lPa Λ)) (lD Λ) i) j from if_neg (by rw [ey]; decide)] at this; exact this) | (rw [show mkN (yoq (pq (lPa Λ)) (lD Λ) i) (j + 1) = mkN (yoq (pq (lPa Λ)) (lD Λ) i) j ||| 2 ^ j from if_pos ey] at this; exact this)
        · have nji : ¬ j = i := fun q => h15 (by rw [q])
          refine wp_aload_n (pc := 18) dX9_young_18 rfl ?_
          refine wf_getR (pc := 19) dX9_young_19 fl_X9_29 lk_150 (hR 150 14 156 rfl) ?_
          refine wp_ic (pc := 22) (x := nI 4) dX9_young_22 ic_4 ?_
          refine wp_iload_n (pc := 23) dX9_young_23 rfl ?_
          refine wp_imul (pc := 24) dX9_young_24 ?_
          refine wp_ic (pc := 25) (x := nI 3) dX9_young_25 ic_3 ?_
          refine wp_iadd (pc := 26) dX9_young_26 ?_
          refine wf_iald (pc := 27) (j := (4 * j + 3)) dX9_young_27 lk_156 (by rw [pk_mul, nI_add]) (by omega) ?_
          rw [show M.1 156 (4 * j + 3) = nv ((pq (lPa Λ)) j) from (hX.2.2.1 j (by omega)).2.2.2.trans pe]
          refine wp_bipush (pc := 28) (x := (-9)) dX9_young_28 bp_m9 ?_
          refine wp_icmp_ne (pc := 30) 48 dX9_young_30 (by decide) (fun h30 => ?_) (fun h30 => ?_)
          · have ey : (yoq (pq (lPa Λ)) (lD Λ) i) j = false := by unfold yoq; rw [decide_eq_false (show ¬ pq (lPa Λ) j = 9 from fun q => h30 (by rw [q]; rfl)), Bool.false_and, Bool.and_false]
            refine wp_ic (pc := 48) (x := nI 0) dX9_young_48 ic_0 ?_
            refine wp_ior (pc := 49) dX9_young_49 ?_
            first | rw [or_bit (show j < 5 by omega)] | rw [or_nI, Nat.or_zero]
            refine wp_istore_n (pc := 50) (L' := [_, _, _, _]) dX9_young_50 (Nat.le_of_ble_eq_true rfl) rfl rfl ?_
            refine wp_iinc1 (pc := 51) (L' := [_, _, _, _]) dX9_young_51 rfl rfl rfl ?_
            refine wp_goto (pc := 54) 4 dX9_young_54 (by decide) ?_
            have := ih (j + 1) (by omega) (by omega)
            first | (rw [show mkN (yoq (pq (lPa Λ)) (lD Λ) i) (j + 1) = mkN (yoq (pq (lPa Λ)) (lD Λ) i) j from if_neg (by rw [ey]; decide)] at this; exact this) | (rw [show mkN (yoq (pq (lPa Λ)) (lD Λ) i) (j + 1) = mkN (yoq (pq (lPa Λ)) (lD Λ) i) j ||| 2 ^ j from if_pos ey] at this; exact this)
          · have e9 := (nv_is9 (by omega)).mp h30
            refine wp_aload_n (pc := 33) dX9_young_33 rfl ?_
            refine wp_iload_n (pc := 34) dX9_young_34 rfl ?_
            refine wp_iload_n (pc := 35) dX9_young_35 rfl ?_
            refine wf_callVi (pc := 36) dX9_young_36 cl_X9_114 (c_comes hR hL hA hX hi (show j < lD Λ by omega) (fun q => nji q.symm)) lk_150 rfl rfl rfl rfl (Nat.le_of_ble_eq_true rfl) (by decide) ⟨Nat.le_refl _, Nat.le_refl _⟩ (fun r36 M36 q36 => ?_)
            rw [q36.1, q36.2]
            refine wp_if_ne (pc := 39) 48 dX9_young_39 (by decide) (fun h39 => ?_) (fun h39 => ?_)
            · have h39 := b2i_1 h39
              have ey : (yoq (pq (lPa Λ)) (lD Λ) i) j = false := by unfold yoq; rw [h39]; simp
              refine wp_ic (pc := 48) (x := nI 0) dX9_young_48 ic_0 ?_
              refine wp_ior (pc := 49) dX9_young_49 ?_
              first | rw [or_bit (show j < 5 by omega)] | rw [or_nI, Nat.or_zero]
              refine wp_istore_n (pc := 50) (L' := [_, _, _, _]) dX9_young_50 (Nat.le_of_ble_eq_true rfl) rfl rfl ?_
              refine wp_iinc1 (pc := 51) (L' := [_, _, _, _]) dX9_young_51 rfl rfl rfl ?_
              refine wp_goto (pc := 54) 4 dX9_young_54 (by decide) ?_
              have := ih (j + 1) (by omega) (by omega)
              first | (rw [show mkN (yoq (pq (lPa Λ)) (lD Λ) i) (j + 1) = mkN (yoq (pq (lPa Λ)) (lD Λ) i) j from if_neg (by rw [ey]; decide)] at this; exact this) | (rw [show mkN (yoq (pq (lPa Λ)) (lD Λ) i) (j + 1) = mkN (yoq (pq (lPa Λ)) (lD Λ) i) j ||| 2 ^ j from if_pos ey] at this; exact this)
            · have h39 := b2i_0 h39
              have ey : (yoq (pq (lPa Λ)) (lD Λ) i) j = true := by unfold yoq; rw [decide_eq_false nji, decide_eq_true e9, h39]; rfl
              refine wp_ic (pc := 42) (x := nI 1) dX9_young_42 ic_1 ?_
              refine wp_iload_n (pc := 43) dX9_young_43 rfl ?_
              refine wp_ishl (pc := 44) dX9_young_44 ?_
              refine wp_goto (pc := 45) 49 dX9_young_45 (by decide) ?_
              refine wp_ior (pc := 49) dX9_young_49 ?_
              first | rw [or_bit (show j < 5 by omega)] | rw [or_nI, Nat.or_zero]
              refine wp_istore_n (pc := 50) (L' := [_, _, _, _]) dX9_young_50 (Nat.le_of_ble_eq_true rfl) rfl rfl ?_
              refine wp_iinc1 (pc := 51) (L' := [_, _, _, _]) dX9_young_51 rfl rfl rfl ?_
              refine wp_goto (pc := 54) 4 dX9_young_54 (by decide) ?_
              have := ih (j + 1) (by omega) (by omega)
              first | (rw [show mkN (yoq (pq (lPa Λ)) (lD Λ) i) (j + 1) = mkN (yoq (pq (lPa Λ)) (lD Λ) i) j from if_neg (by rw [ey]; decide)] at this; exact this) | (rw [show mkN (yoq (pq (lPa Λ)) (lD Λ) i) (j + 1) = mkN (yoq (pq (lPa Λ)) (lD Λ) i) j ||| 2 ^ j from if_pos ey] at this; exact this)
  refine wp_ic (pc := 0) (x := nI 0) dX9_young_0 ic_0 ?_
  refine wp_istore_n (pc := 1) (L' := [_, _, _, _]) dX9_young_1 (Nat.le_of_ble_eq_true rfl) rfl rfl ?_
  refine wp_ic (pc := 2) (x := nI 0) dX9_young_2 ic_0 ?_
  refine wp_istore_n (pc := 3) (L' := [_, _, _, _]) dX9_young_3 (Nat.le_of_ble_eq_true rfl) rfl rfl ?_
  exact loop (lD Λ) 0 (by omega) (by omega)
theorem c_parents {l : Launch} {K : CtxT} {M : Mm} {Λ : Lw} {P : Pg} (hR : RS M) (hL : OkL Λ) (hA : AcL Λ) (hX : XQ M Λ P) : Ci l K 2 mX9_parents [.ref (K.1 + 150)] M (fun r M' => r = nI (mkN (fun i => anyN (lD Λ) (yoq (pq (lPa Λ)) (lD Λ) i)) (lD Λ)) ∧ M' = M) := by
  refine ci_of (L := [some (.ref (K.1 + 150)), none, none]) (by decide +kernel) (Nat.le_of_ble_eq_true rfl) rfl rfl (fun E => ?_)
  have hD := hL.1
  have loop : ∀ (n i : Nat), n = lD Λ - i → i ≤ lD Λ → Wp E K mX9_parents 2 (0, 0) 4 [some (.ref (K.1 + 150)), some (.int (nI (mkN (fun i => anyN (lD Λ) (yoq (pq (lPa Λ)) (lD Λ) i)) i))), some (.int (nI i))] [] 168 M 0 0 (zI E K (fun r M' => r = nI (mkN (fun i => anyN (lD Λ) (yoq (pq (lPa Λ)) (lD Λ) i)) (lD Λ)) ∧ M' = M)) := by
    intro n
    induction n with
    | zero =>
      intro i hn hm
      refine wp_iload_n (pc := 4) dX9_parents_4 rfl ?_
      refine wp_aload_n (pc := 5) dX9_parents_5 rfl ?_
      refine wf_getI (pc := 6) dX9_parents_6 fl_X9_100 lk_150 ?_
      rw [hX.1.1]
      refine wp_icmp_ge (pc := 9) 36 dX9_parents_9 (by decide) (fun h9 => ?_) (fun h9 => ?_)
      · refine wp_iload_n (pc := 36) dX9_parents_36 rfl ?_
        refine wf_iret (pc := 37) dX9_parents_37 rfl ?_
        exact ⟨by rw [show i = lD Λ by omega], rfl⟩
      · exact absurd (nI_le (by omega) (by omega)) h9
    | succ n ih =>
      intro i hn hm
      have hlt : mkN (yoq (pq (lPa Λ)) (lD Λ) i) (lD Λ) < 16 := Nat.lt_of_lt_of_le (mkN_lt _ _) (Nat.pow_le_pow_right (n := 2) (by decide) hD)
      refine wp_iload_n (pc := 4) dX9_parents_4 rfl ?_
      refine wp_aload_n (pc := 5) dX9_parents_5 rfl ?_
      refine wf_getI (pc := 6) dX9_parents_6 fl_X9_100 lk_150 ?_
      rw [hX.1.1]
      refine wp_icmp_ge (pc := 9) 36 dX9_parents_9 (by decide) (fun h9 => ?_) (fun h9 => ?_)
      · exact absurd h9 (nI_ge (by omega) (by omega))
      · refine wp_iload_n (pc := 12) dX9_parents_12 rfl ?_
        refine wp_aload_n (pc := 13) dX9_parents_13 rfl ?_
        refine wp_iload_n (pc := 14) dX9_parents_14 rfl ?_
        refine wf_callVi (pc := 15) dX9_parents_15 cl_X9_117 (c_young hR hL hA hX (show i < lD Λ by omega)) lk_150 rfl rfl rfl rfl (Nat.le_of_ble_eq_true rfl) (by decide) ⟨Nat.le_refl _, Nat.le_refl _⟩ (fun r15 M15 q15 => ?_)
        rw [q15.1, q15.2]
        refine wp_if_eq (pc := 18) 27 dX9_parents_18 (by decide) (fun h18 => ?_) (fun h18 => ?_)
        · have ey : (fun i => anyN (lD Λ) (yoq (pq (lPa Λ)) (lD Λ) i)) i = false := anyN_f (mkN_0.mp ((nI_eq (by omega) (show 0 < 2 ^ 31 by decide)).mp h18))
          refine wp_ic (pc := 27) (x := nI 0) dX9_parents_27 ic_0 ?_
          refine wp_ior (pc := 28) dX9_parents_28 ?_
          first | rw [or_bit (show i < 5 by omega)] | rw [or_nI, Nat.or_zero]
          refine wp_istore_n (pc := 29) (L' := [_, _, _]) dX9_parents_29 (Nat.le_of_ble_eq_true rfl) rfl rfl ?_
          refine wp_iinc1 (pc := 30) (L' := [_, _, _]) dX9_parents_30 rfl rfl rfl ?_
          refine wp_goto (pc := 33) 4 dX9_parents_33 (by decide) ?_
          have := ih (i + 1) (by omega) (by omega)
          first | (rw [show mkN (fun i => anyN (lD Λ) (yoq (pq (lPa Λ)) (lD Λ) i)) (i + 1) = mkN (fun i => anyN (lD Λ) (yoq (pq (lPa Λ)) (lD Λ) i)) i from if_neg (by rw [ey]; decide)] at this; exact this) | (rw [show mkN (fun i => anyN (lD Λ) (yoq (pq (lPa Λ)) (lD Λ) i)) (i + 1) = mkN (fun i => anyN (lD Λ) (yoq (pq (lPa Λ)) (lD Λ) i)) i ||| 2 ^ i from if_pos ey] at this; exact this)
        · have ey : (fun i => anyN (lD Λ) (yoq (pq (lPa Λ)) (lD Λ) i)) i = true := by
            cases w : anyN (lD Λ) (yoq (pq (lPa Λ)) (lD Λ) i) with
            | true => exact w
            | false => exact absurd (by rw [mkN_0.mpr (anyN_iff.mp w)]; rfl) h18
          refine wp_ic (pc := 21) (x := nI 1) dX9_parents_21 ic_1 ?_
          refine wp_iload_n (pc := 22) dX9_parents_22 rfl ?_
          refine wp_ishl (pc := 23) dX9_parents_23 ?_
          refine wp_goto (pc := 24) 28 dX9_parents_24 (by decide) ?_
          refine wp_ior (pc := 28) dX9_parents_28 ?_
          first | rw [or_bit (show i < 5 by omega)] | rw [or_nI, Nat.or_zero]
          refine wp_istore_n (pc := 29) (L' := [_, _, _]) dX9_parents_29 (Nat.le_of_ble_eq_true rfl) rfl rfl ?_
          refine wp_iinc1 (pc := 30) (L' := [_, _, _]) dX9_parents_30 rfl rfl rfl ?_
          refine wp_goto (pc := 33) 4 dX9_parents_33 (by decide) ?_
          have := ih (i + 1) (by omega) (by omega)
          first | (rw [show mkN (fun i => anyN (lD Λ) (yoq (pq (lPa Λ)) (lD Λ) i)) (i + 1) = mkN (fun i => anyN (lD Λ) (yoq (pq (lPa Λ)) (lD Λ) i)) i from if_neg (by rw [ey]; decide)] at this; exact this) | (rw [show mkN (fun i => anyN (lD Λ) (yoq (pq (lPa Λ)) (lD Λ) i)) (i + 1) = mkN (fun i => anyN (lD Λ) (yoq (pq (lPa Λ)) (lD Λ) i)) i ||| 2 ^ i from if_pos ey] at this; exact this)
  refine wp_ic (pc := 0) (x := nI 0) dX9_parents_0 ic_0 ?_
  refine wp_istore_n (pc := 1) (L' := [_, _, _]) dX9_parents_1 (Nat.le_of_ble_eq_true rfl) rfl rfl ?_
  refine wp_ic (pc := 2) (x := nI 0) dX9_parents_2 ic_0 ?_
  refine wp_istore_n (pc := 3) (L' := [_, _, _]) dX9_parents_3 (Nat.le_of_ble_eq_true rfl) rfl rfl ?_
  exact loop (lD Λ) 0 (by omega) (by omega)
theorem c_readParent {l : Launch} {K : CtxT} {M : Mm} {T : Pg} {n k : Nat} {σ0 : Rs} {l0 q : Nat} {Λ : Lw} {P : Pg} (hR : RS M) (h : RT M T n (k + 1)) (hs : rnS σ0 T (k + 1) = some (80, 1, q, Λ, P)) (hX : XQ M Λ P) (hF : OkF Λ P) (hro : 1 < rotq (pq (lPa Λ)) (lD Λ)) : Ci l K 3 mX9_readParent [.ref (K.1 + 150)] M (PO σ0 T n M k) := by
  refine ci_of (L := [some (.ref (K.1 + 150)), none, none]) (by decide +kernel) (Nat.le_of_ble_eq_true rfl) rfl rfl (fun E => ?_)
  have hn := h.2.2.2.1
  have hkn := h.2.2.2.2
  have hL := hF.1
  have hA := hF.2.1
  have hD := hL.1
  have hpar := (par_facts hD (okq_of hL hA)).1
  refine wp_aload_n (pc := 0) dX9_readParent_0 rfl ?_
  refine wp_aload_n (pc := 1) dX9_readParent_1 rfl ?_
  refine wf_callVi (pc := 2) dX9_readParent_2 cl_X9_120 (c_parents hR hL hA hX) lk_150 rfl rfl rfl rfl (Nat.le_of_ble_eq_true rfl) (by decide) ⟨Nat.le_refl _, Nat.le_refl _⟩ (fun r2 M2 q2 => ?_)
  rw [q2.1, q2.2]
  refine wf_callVi (pc := 5) dX9_readParent_5 cl_X9_110 (c_one hR h (Nat.lt_of_lt_of_le (mkN_lt _ _) (Nat.pow_le_pow_right (n := 2) (by decide) hD))) lk_150 rfl rfl rfl rfl (Nat.le_of_ble_eq_true rfl) (by decide) ⟨Nat.le_refl _, Nat.le_refl _⟩ (fun r5 M5 q5 => ?_)
  refine wp_istore_n (pc := 8) (L' := [_, _, _]) dX9_readParent_8 (Nat.le_of_ble_eq_true rfl) rfl rfl ?_
  refine wp_iload_n (pc := 9) dX9_readParent_9 rfl ?_
  refine wp_bipush (pc := 10) (x := (-9)) dX9_readParent_10 bp_m9 ?_
  refine wp_icmp_ne (pc := 12) 20 dX9_readParent_12 (by decide) (fun h12 => ?_) (fun h12 => ?_)
  · obtain ⟨yi, zi, xi, ui, vi⟩ := q5.y h12
    rw [ui]
    have Ti : RT M5 T n (k + 1 + 1) := by rw [vi]; exact h.nx yi
    have sqi : Sq M M5 := by rw [vi]; exact Sq.f (Or.inl rfl)
    obtain ⟨i, ei⟩ : ∃ x, fgN (byt T (k + 1)) = x := ⟨_, rfl⟩
    rw [ei] at zi xi ⊢
    rw [mkN_bit, Bool.and_eq_true, decide_eq_true_eq] at zi
    have X5 : XQ M5 Λ P := by rw [vi]; exact hX.pl _
    have hs2 := rn_s hs (stp_P (by rw [ei, tkP_1, if_pos zi.1]))
    refine wp_aload_n (pc := 20) dX9_readParent_20 rfl ?_
    refine wp_aload_n (pc := 21) dX9_readParent_21 rfl ?_
    refine wp_iload_n (pc := 22) dX9_readParent_22 rfl ?_
    refine wf_callVi (pc := 23) dX9_readParent_23 cl_X9_117 (c_young (sqi.rs hR) hL hA X5 zi.1) lk_150 rfl rfl rfl rfl (Nat.le_of_ble_eq_true rfl) (by decide) ⟨Nat.le_refl _, Nat.le_refl _⟩ (fun r23 M23 q23 => ?_)
    rw [q23.1, q23.2]
    refine wf_callVi (pc := 26) dX9_readParent_26 cl_X9_110 (c_one (sqi.rs hR) Ti (Nat.lt_of_lt_of_le (mkN_lt _ _) (Nat.pow_le_pow_right (n := 2) (by decide) hD))) lk_150 rfl rfl rfl rfl (Nat.le_of_ble_eq_true rfl) (by decide) ⟨Nat.le_refl _, Nat.le_refl _⟩ (fun r26 M26 q26 => ?_)
    refine wp_istore_n (pc := 29) (L' := [_, _, _]) dX9_readParent_29 (Nat.le_of_ble_eq_true rfl) rfl rfl ?_
    refine wp_iload_n (pc := 30) dX9_readParent_30 rfl ?_
    refine wp_bipush (pc := 31) (x := (-9)) dX9_readParent_31 bp_m9 ?_
    refine wp_icmp_ne (pc := 33) 38 dX9_readParent_33 (by decide) (fun h33 => ?_) (fun h33 => ?_)
    · obtain ⟨yj, zj, xj, uj, vj⟩ := q26.y h33
      rw [uj]
      have Tj : RT M26 T n (k + 1 + 1 + 1) := by rw [vj]; exact Ti.nx yj
      have sqj : Sq M5 M26 := by rw [vj]; exact Sq.f (Or.inl rfl)
      obtain ⟨j, ej⟩ : ∃ x, fgN (byt T (k + 1 + 1)) = x := ⟨_, rfl⟩
      rw [ej] at zj xj ⊢
      rw [mkN_bit, Bool.and_eq_true, decide_eq_true_eq] at zj
      have X26 : XQ M26 Λ P := by rw [vj]; exact X5.pl _
      have hR := (sqi.tr sqj).rs hR
      have hs3 := rn_s hs2 (stp_P (by rw [ej, tkP_2 hL, if_pos zj]))
      refine wp_aload_n (pc := 38) dX9_readParent_38 rfl ?_
      refine wf_getR (pc := 39) dX9_readParent_39 fl_X9_29 lk_150 (hR 150 14 156 rfl) ?_
      refine wp_ic (pc := 42) (x := nI 4) dX9_readParent_42 ic_4 ?_
      refine wp_iload_n (pc := 43) dX9_readParent_43 rfl ?_
      refine wp_imul (pc := 44) dX9_readParent_44 ?_
      refine wp_ic (pc := 45) (x := nI 3) dX9_readParent_45 ic_3 ?_
      refine wp_iadd (pc := 46) dX9_readParent_46 ?_
      refine wp_iload_n (pc := 47) dX9_readParent_47 rfl ?_
      refine wf_iast (pc := 48) (j := (4 * j + 3)) dX9_readParent_48 lk_156 (by rw [pk_mul, nI_add]) (by omega) ?_
      refine wp_ic (pc := 49) (x := nI 1) dX9_readParent_49 ic_1 ?_
      refine wf_zret (pc := 50) (true) dX9_readParent_50 rfl rfl ?_
      exact ⟨(sqi.tr sqj).tr (Sq.w (by omega)), Or.inr ⟨rfl, k + 1 + 1 + 1, by omega, Tj.mv (wI_na (by decide)) ((wI_na (by decide)).trans Tj.1.2) (fun j => wI_na (by decide)) Tj.2.2.2.2, _, _, _, _, hs3, XQ_pa X26, OkF_pa hF zi.1 zj.1 zj.2⟩⟩
    · obtain ⟨w1, w2⟩ := q26.n h33
      rw [w1]
      have hsq : Sq M M5 := sqi
      have hbad : Bad σ0 T n M5 := ⟨k + 1 + 1, Ti, fl_of hs2 (by show (80 : Nat) ≠ 1; decide) Ti.2.2.2.2 (fun w => stp_P0 (by rw [tkP_2 hL, if_neg (fun q => by have w3 := w2 w; rw [mkN_bit, decide_eq_true q.1, q.2] at w3; cases w3)]))⟩
      refine wp_ic (pc := 36) (x := nI 0) dX9_readParent_36 ic_0 ?_
      refine wf_zret (pc := 37) (false) dX9_readParent_37 rfl rfl ?_
      exact ⟨hsq, Or.inl ⟨rfl, hbad⟩⟩
  · obtain ⟨w1, w2⟩ := q5.n h12
    rw [w1]
    have hsq : Sq M M := Sq.rf
    have hbad : Bad σ0 T n M := ⟨k + 1, h, fl_of hs (by show (80 : Nat) ≠ 1; decide) h.2.2.2.2 (fun w => stp_P0 (by rw [tkP_1, if_neg (fun q => by have w3 := w2 w; rw [mkN_bit, decide_eq_true q, hpar _ q, decide_eq_true hro] at w3; cases w3)]))⟩
    refine wp_bipush (pc := 15) (x := (-9)) dX9_readParent_15 bp_m9 ?_
    refine wp_goto (pc := 17) 29 dX9_readParent_17 (by decide) ?_
    refine wp_istore_n (pc := 29) (L' := [_, _, _]) dX9_readParent_29 (Nat.le_of_ble_eq_true rfl) rfl rfl ?_
    refine wp_iload_n (pc := 30) dX9_readParent_30 rfl ?_
    refine wp_bipush (pc := 31) (x := (-9)) dX9_readParent_31 bp_m9 ?_
    refine wp_icmp_ne (pc := 33) 38 dX9_readParent_33 (by decide) (fun h33 => ?_) (fun h33 => ?_)
    · exact absurd rfl h33
    · refine wp_ic (pc := 36) (x := nI 0) dX9_readParent_36 ic_0 ?_
      refine wf_zret (pc := 37) (false) dX9_readParent_37 rfl rfl ?_
      exact ⟨hsq, Or.inl ⟨rfl, hbad⟩⟩
theorem mayO_68 {Λ : Lw} : mayO Λ 68 = decide (lD Λ < 4) := rfl
theorem mayO_77 {Λ : Lw} : mayO Λ 77 = decide (lM Λ < 5) := rfl
theorem mayO_80 {Λ : Lw} (hL : OkL Λ) : mayO Λ 80 = decide (1 < rotq (pq (lPa Λ)) (lD Λ)) := by
  have e : rootN (lPa Λ) (lD Λ) = rotq (pq (lPa Λ)) (lD Λ) := by
    have hD := hL.1
    have key : ∀ D, D ≤ lD Λ → rootN (lPa Λ) D = rotq (pq (lPa Λ)) D := by
      intro D
      induction D with
      | zero => intro _; rfl
      | succ D ih =>
        intro h
        unfold rootN rotq
        rw [ih (by omega)]
        have h9 : lPa Λ D = no9 ↔ pq (lPa Λ) D = 9 := by
          unfold pq
          by_cases q : lPa Λ D = no9
          · rw [if_pos q]; exact ⟨fun _ => rfl, fun _ => q⟩
          · rw [if_neg q]
            rcases hL.pa D (by omega) with w | ⟨x, hx, w⟩
            · exact absurd w q
            · rw [w, nI_cl (by omega)]
              constructor
              · intro z; exact absurd z (nI_n9 (by omega))
              · intro z; omega
        by_cases e : lPa Λ D = no9
        · rw [if_pos e, if_pos (h9.mp e)]
        · rw [if_neg e, if_neg (fun q => e (h9.mpr q))]
    exact key _ (Nat.le_refl _)
  show decide (1 < rootN (lPa Λ) (lD Λ)) = _
  rw [e]
theorem mayO_no {Λ : Lw} {t : Nat} (h1 : t ≠ 68) (h2 : t ≠ 77) (h3 : t ≠ 80) : mayO Λ t = false := by
  unfold mayO
  rw [if_neg h1, if_neg h2, if_neg h3]
theorem c_readPart {l : Launch} {K : CtxT} {M : Mm} {T : Pg} {n k : Nat} {σ0 : Rs} {l0 q : Nat} {Λ : Lw} {P : Pg} (hR : RS M) (h : RT M T n k) (hk : k < n) (hs : rnS σ0 T k = some (1, l0, q, Λ, P)) (hX : XQ M Λ P) (hF : OkF Λ P) : Ci l K 4 mX9_readPart [.ref (K.1 + 150)] M (PO σ0 T n M k) := by
  refine ci_of (L := [some (.ref (K.1 + 150)), none]) (by decide +kernel) (Nat.le_of_ble_eq_true rfl) rfl rfl (fun E => ?_)
  have hn := h.2.2.2.1
  have hL := hF.1
  have hA := hF.2.1
  have hD := hL.1
  have hM := hL.2.1
  have hb := (h.byte hk).1
  have hpar := (par_facts hD (okq_of hL hA)).1
  refine wp_aload_n (pc := 0) dX9_readPart_0 rfl ?_
  refine wf_getR (pc := 1) dX9_readPart_1 fl_X9_7 lk_150 (hR 150 1 151 rfl) ?_
  refine wp_aload_n (pc := 4) dX9_readPart_4 rfl ?_
  refine wf_getI (pc := 5) dX9_readPart_5 fl_X9_84 lk_150 ?_
  rw [h.1.2]
  refine wf_iald (pc := 8) (j := k) dX9_readPart_8 lk_151 rfl (by omega) ?_
  rw [(h.byte hk).2]
  refine wp_istore_n (pc := 9) (L' := [_, _]) dX9_readPart_9 (Nat.le_of_ble_eq_true rfl) rfl rfl ?_
  refine wp_aload_n (pc := 10) dX9_readPart_10 rfl ?_
  refine wp_dup (pc := 11) dX9_readPart_11 rfl ?_
  refine wf_getI (pc := 12) dX9_readPart_12 fl_X9_84 lk_150 ?_
  rw [h.1.2]
  refine wp_ic (pc := 15) (x := nI 1) dX9_readPart_15 ic_1 ?_
  refine wp_iadd (pc := 16) dX9_readPart_16 ?_
  refine wp_top (nI (k + 1)) (nI_1 _) ?_
  refine wf_putI (pc := 17) dX9_readPart_17 fl_X9_84 lk_150 ?_
  have T1 := h.nx hk
  have X1 := hX.pl (nI (k + 1))
  have Q1 : Sq M (wI M 150 3 (nI (k + 1))) := Sq.f (Or.inl rfl)
  generalize (wI M 150 3 (nI (k + 1))) = M1 at T1 X1 Q1 ⊢
  refine wp_iload_n (pc := 20) dX9_readPart_20 rfl ?_
  refine wp_bipush (pc := 21) (x := nI 68) dX9_readPart_21 bp_68 ?_
  refine wp_icmp_ne (pc := 23) 39 dX9_readPart_23 (by decide) (fun h23 => ?_) (fun h23 => ?_)
  · have n68 : byt T k ≠ 68 := fun q => h23 (by rw [q])
    refine wp_iload_n (pc := 39) dX9_readPart_39 rfl ?_
    refine wp_bipush (pc := 40) (x := nI 77) dX9_readPart_40 bp_77 ?_
    refine wp_icmp_ne (pc := 42) 58 dX9_readPart_42 (by decide) (fun h42 => ?_) (fun h42 => ?_)
    · have n77 : byt T k ≠ 77 := fun q => h42 (by rw [q])
      refine wp_iload_n (pc := 58) dX9_readPart_58 rfl ?_
      refine wp_bipush (pc := 59) (x := nI 80) dX9_readPart_59 bp_80 ?_
      refine wp_icmp_ne (pc := 61) 76 dX9_readPart_61 (by decide) (fun h61 => ?_) (fun h61 => ?_)
      · have n80 : byt T k ≠ 80 := fun q => h61 (by rw [q])
        have hm : mayO Λ (byt T k) = false := mayO_no n68 n77 n80
        refine wp_aload_n (pc := 76) dX9_readPart_76 rfl ?_
        refine wp_dup (pc := 77) dX9_readPart_77 rfl ?_
        refine wf_getI (pc := 78) dX9_readPart_78 fl_X9_84 lk_150 ?_
        rw [T1.1.2]
        refine wp_ic (pc := 81) (x := nI 1) dX9_readPart_81 ic_1 ?_
        refine wp_isub (pc := 82) dX9_readPart_82 ?_
        refine wp_top (nI k) (by rw [pk_sub (by omega), Nat.add_sub_cancel]) ?_
        refine wf_putI (pc := 83) dX9_readPart_83 fl_X9_84 lk_150 ?_
        refine wp_ic (pc := 86) (x := nI 0) dX9_readPart_86 ic_0 ?_
        refine wf_zret (pc := 87) (false) dX9_readPart_87 rfl rfl ?_
        exact ⟨Q1.tr (Sq.f (Or.inl rfl)), Or.inl ⟨rfl, k, T1.mv (wI_nk (by decide)) (wI_at _ _ _ _) (fun j => wI_na (by decide)) (by omega), ⟨_, hs, Or.inl ⟨hk, stp_O0 hm⟩⟩⟩⟩
      · have e80 : byt T k = 80 := (nI_eq (by omega) (by decide)).mp h61
        rw [e80]
        refine wp_aload_n (pc := 64) dX9_readPart_64 rfl ?_
        refine wf_callVi (pc := 65) dX9_readPart_65 cl_X9_120 (c_parents (Q1.rs hR) hL hA X1) lk_150 rfl rfl rfl rfl (Nat.le_of_ble_eq_true rfl) (by decide) ⟨Nat.le_refl _, Nat.le_refl _⟩ (fun r65 M65 q65 => ?_)
        rw [q65.1, q65.2]
        refine wp_if_eq (pc := 68) 76 dX9_readPart_68 (by decide) (fun h68 => ?_) (fun h68 => ?_)
        · have hm : mayO Λ (byt T k) = false := by
            rw [e80, mayO_80 hL]
            apply decide_eq_false
            intro hr
            have hz := mkN_0.mp ((nI_eq (Nat.lt_of_lt_of_le (Nat.lt_of_lt_of_le (mkN_lt _ _) (Nat.pow_le_pow_right (n := 2) (by decide) hD)) (by decide)) (show 0 < 2 ^ 31 by decide)).mp h68)
            have h0 : 0 < lD Λ := by
              rcases Nat.eq_zero_or_pos (lD Λ) with q | q
              · rw [q] at hr; exact absurd (show 1 < 0 from hr) (by decide)
              · exact q
            have := hz 0 h0
            rw [hpar 0 h0, decide_eq_true hr] at this
            cases this
          refine wp_aload_n (pc := 76) dX9_readPart_76 rfl ?_
          refine wp_dup (pc := 77) dX9_readPart_77 rfl ?_
          refine wf_getI (pc := 78) dX9_readPart_78 fl_X9_84 lk_150 ?_
          rw [T1.1.2]
          refine wp_ic (pc := 81) (x := nI 1) dX9_readPart_81 ic_1 ?_
          refine wp_isub (pc := 82) dX9_readPart_82 ?_
          refine wp_top (nI k) (by rw [pk_sub (by omega), Nat.add_sub_cancel]) ?_
          refine wf_putI (pc := 83) dX9_readPart_83 fl_X9_84 lk_150 ?_
          refine wp_ic (pc := 86) (x := nI 0) dX9_readPart_86 ic_0 ?_
          refine wf_zret (pc := 87) (false) dX9_readPart_87 rfl rfl ?_
          exact ⟨Q1.tr (Sq.f (Or.inl rfl)), Or.inl ⟨rfl, k, T1.mv (wI_nk (by decide)) (wI_at _ _ _ _) (fun j => wI_na (by decide)) (by omega), ⟨_, hs, Or.inl ⟨hk, stp_O0 hm⟩⟩⟩⟩
        · have hr : 1 < rotq (pq (lPa Λ)) (lD Λ) := by
            apply Classical.byContradiction
            intro w
            apply h68
            rw [mkN_0.mpr (fun i hi => by rw [hpar i hi]; exact decide_eq_false w)]
            rfl
          have hs1 := rn_s hs (stp_O (t := byt T k) (by rw [e80, mayO_80 hL]; exact decide_eq_true hr))
          rw [e80] at hs1
          refine wp_aload_n (pc := 71) dX9_readPart_71 rfl ?_
          refine wf_callVi (pc := 72) dX9_readPart_72 cl_X9_128 (c_readParent (k := k) (l0 := 0) (Q1.rs hR) T1 hs1 X1 hF hr) lk_150 rfl rfl rfl rfl (Nat.le_of_ble_eq_true rfl) (by decide) ⟨Nat.le_refl _, Nat.le_refl _⟩ (fun r72 M72 q72 => ?_)
          obtain ⟨b, hb72⟩ := q72.b
          subst hb72
          refine wf_zret (pc := 75) (b) dX9_readPart_75 rfl rfl ?_
          obtain ⟨sq2, w⟩ := q72
          refine ⟨Q1.tr sq2, ?_⟩
          rcases w with w | ⟨w1, k2, w2, w3⟩
          · exact Or.inl w
          · exact Or.inr ⟨w1, k2, by omega, w3⟩
    · have e77 : byt T k = 77 := (nI_eq (by omega) (by decide)).mp h42
      rw [e77]
      refine wp_aload_n (pc := 45) dX9_readPart_45 rfl ?_
      refine wf_getI (pc := 46) dX9_readPart_46 fl_X9_103 lk_150 ?_
      rw [X1.1.2.1]
      refine wp_ic (pc := 49) (x := nI 5) dX9_readPart_49 ic_5 ?_
      refine wp_icmp_ge (pc := 50) 58 dX9_readPart_50 (by decide) (fun h50 => ?_) (fun h50 => ?_)
      · have hm : mayO Λ (byt T k) = false := by rw [e77, mayO_77]; exact decide_eq_false (fun q => absurd h50 (nI_ge q (by omega)))
        refine wp_iload_n (pc := 58) dX9_readPart_58 rfl ?_
        refine wp_bipush (pc := 59) (x := nI 80) dX9_readPart_59 bp_80 ?_
        refine wp_icmp_ne (pc := 61) 76 dX9_readPart_61 (by decide) (fun h61 => ?_) (fun h61 => ?_)
        · refine wp_aload_n (pc := 76) dX9_readPart_76 rfl ?_
          refine wp_dup (pc := 77) dX9_readPart_77 rfl ?_
          refine wf_getI (pc := 78) dX9_readPart_78 fl_X9_84 lk_150 ?_
          rw [T1.1.2]
          refine wp_ic (pc := 81) (x := nI 1) dX9_readPart_81 ic_1 ?_
          refine wp_isub (pc := 82) dX9_readPart_82 ?_
          refine wp_top (nI k) (by rw [pk_sub (by omega), Nat.add_sub_cancel]) ?_
          refine wf_putI (pc := 83) dX9_readPart_83 fl_X9_84 lk_150 ?_
          refine wp_ic (pc := 86) (x := nI 0) dX9_readPart_86 ic_0 ?_
          refine wf_zret (pc := 87) (false) dX9_readPart_87 rfl rfl ?_
          exact ⟨Q1.tr (Sq.f (Or.inl rfl)), Or.inl ⟨rfl, k, T1.mv (wI_nk (by decide)) (wI_at _ _ _ _) (fun j => wI_na (by decide)) (by omega), ⟨_, hs, Or.inl ⟨hk, stp_O0 hm⟩⟩⟩⟩
        · exact absurd h61 (by decide)
      · have hM5 : lM Λ < 5 := by rcases Nat.lt_or_ge (lM Λ) 5 with q | q; exact q; exact absurd (nI_le q (by omega)) h50
        have hs1 := rn_s hs (stp_O (t := byt T k) (by rw [e77, mayO_77]; exact decide_eq_true hM5))
        rw [e77] at hs1
        refine wp_aload_n (pc := 53) dX9_readPart_53 rfl ?_
        refine wf_callVi (pc := 54) dX9_readPart_54 cl_X9_126 (c_readMan (k := k) (l0 := 0) (Q1.rs hR) T1 hs1 X1 hF hM5) lk_150 rfl rfl rfl rfl (Nat.le_of_ble_eq_true rfl) (by decide) ⟨Nat.le_refl _, Nat.le_refl _⟩ (fun r54 M54 q54 => ?_)
        obtain ⟨b, hb54⟩ := q54.b
        subst hb54
        refine wf_zret (pc := 57) (b) dX9_readPart_57 rfl rfl ?_
        obtain ⟨sq2, w⟩ := q54
        refine ⟨Q1.tr sq2, ?_⟩
        rcases w with w | ⟨w1, k2, w2, w3⟩
        · exact Or.inl w
        · exact Or.inr ⟨w1, k2, by omega, w3⟩
  · have e68 : byt T k = 68 := (nI_eq (by omega) (by decide)).mp h23
    rw [e68]
    refine wp_aload_n (pc := 26) dX9_readPart_26 rfl ?_
    refine wf_getI (pc := 27) dX9_readPart_27 fl_X9_100 lk_150 ?_
    rw [X1.1.1]
    refine wp_ic (pc := 30) (x := nI 4) dX9_readPart_30 ic_4 ?_
    refine wp_icmp_ge (pc := 31) 39 dX9_readPart_31 (by decide) (fun h31 => ?_) (fun h31 => ?_)
    · have hm : mayO Λ (byt T k) = false := by rw [e68, mayO_68]; exact decide_eq_false (fun q => absurd h31 (nI_ge q (by omega)))
      refine wp_iload_n (pc := 39) dX9_readPart_39 rfl ?_
      refine wp_bipush (pc := 40) (x := nI 77) dX9_readPart_40 bp_77 ?_
      refine wp_icmp_ne (pc := 42) 58 dX9_readPart_42 (by decide) (fun h42 => ?_) (fun h42 => ?_)
      · refine wp_iload_n (pc := 58) dX9_readPart_58 rfl ?_
        refine wp_bipush (pc := 59) (x := nI 80) dX9_readPart_59 bp_80 ?_
        refine wp_icmp_ne (pc := 61) 76 dX9_readPart_61 (by decide) (fun h61 => ?_) (fun h61 => ?_)
        · refine wp_aload_n (pc := 76) dX9_readPart_76 rfl ?_
          refine wp_dup (pc := 77) dX9_readPart_77 rfl ?_
          refine wf_getI (pc := 78) dX9_readPart_78 fl_X9_84 lk_150 ?_
          rw [T1.1.2]
          refine wp_ic (pc := 81) (x := nI 1) dX9_readPart_81 ic_1 ?_
          refine wp_isub (pc := 82) dX9_readPart_82 ?_
          refine wp_top (nI k) (by rw [pk_sub (by omega), Nat.add_sub_cancel]) ?_
          refine wf_putI (pc := 83) dX9_readPart_83 fl_X9_84 lk_150 ?_
          refine wp_ic (pc := 86) (x := nI 0) dX9_readPart_86 ic_0 ?_
          refine wf_zret (pc := 87) (false) dX9_readPart_87 rfl rfl ?_
          exact ⟨Q1.tr (Sq.f (Or.inl rfl)), Or.inl ⟨rfl, k, T1.mv (wI_nk (by decide)) (wI_at _ _ _ _) (fun j => wI_na (by decide)) (by omega), ⟨_, hs, Or.inl ⟨hk, stp_O0 hm⟩⟩⟩⟩
        · exact absurd h61 (by decide)
      · exact absurd h42 (by decide)
    · have hD4 : lD Λ < 4 := by rcases Nat.lt_or_ge (lD Λ) 4 with q | q; exact q; exact absurd (nI_le q (by omega)) h31
      have hs1 := rn_s hs (stp_O (t := byt T k) (by rw [e68, mayO_68]; exact decide_eq_true hD4))
      rw [e68] at hs1
      refine wp_aload_n (pc := 34) dX9_readPart_34 rfl ?_
      refine wf_callVi (pc := 35) dX9_readPart_35 cl_X9_123 (c_readDog (k := k) (l0 := 0) (Q1.rs hR) T1 hs1 X1 hF hD4) lk_150 rfl rfl rfl rfl (Nat.le_of_ble_eq_true rfl) (by decide) ⟨Nat.le_refl _, Nat.le_refl _⟩ (fun r35 M35 q35 => ?_)
      obtain ⟨b, hb35⟩ := q35.b
      subst hb35
      refine wf_zret (pc := 38) (b) dX9_readPart_38 rfl rfl ?_
      obtain ⟨sq2, w⟩ := q35
      refine ⟨Q1.tr sq2, ?_⟩
      rcases w with w | ⟨w1, k2, w2, w3⟩
      · exact Or.inl w
      · exact Or.inr ⟨w1, k2, by omega, w3⟩
/-- what the reading of a text comes to -/
def RQ (σ0 : Rs) (T : Pg) (n : Nat) (M : Mm) (r : Int32) (M' : Mm) : Prop := Sq M M' ∧ ((∃ k, FLt σ0 T n k ∧ k ≤ n ∧ r = nI k) ∨ (r = no9 ∧ ∃ l q Λ P, rnS σ0 T n = some (1, l, q, Λ, P) ∧ XQ M' Λ P ∧ OkF Λ P))
theorem c_readLaw {l : Launch} {K : CtxT} {M : Mm} {T : Pg} {n : Nat} {l0 q : Nat} {Λ : Lw} {P : Pg} (hR : RS M) (h1 : M.1 150 2 = nI n) (h2 : ∀ j, j < n → M.1 151 j = T j) (h3 : ∀ j, j < n → ∃ t, t ≤ 255 ∧ T j = nI t) (h4 : n ≤ 60) (hD : lD Λ = 0) (hM : lM Λ = 0) (z : ZP P) : Ci l K 5 mX9_readLaw [.ref (K.1 + 150)] M (RQ (0, l0, q, Λ, P) T n M) := by
  refine ci_of (L := [some (.ref (K.1 + 150))]) (by decide +kernel) (Nat.le_of_ble_eq_true rfl) rfl rfl (fun E => ?_)
  have loop : ∀ (q' k : Nat) (M1 : Mm), n - k ≤ q' → Btw (0, l0, q, Λ, P) T n M1 k → Sq M M1 → Wp E K mX9_readLaw 5 (0, 0) 52 [some (.ref (K.1 + 150))] [] 168 M1 0 0 (zI E K (RQ (0, l0, q, Λ, P) T n M)) := by
    intro q'
    induction q' with
    | zero =>
      intro k M1 hq hB sq
      obtain ⟨T1, l, q1, Λ1, P1, b1, b2, b3⟩ := hB
      have hkn := T1.2.2.2.2
      refine wp_aload_n (pc := 52) dX9_readLaw_52 rfl ?_
      refine wf_getI (pc := 53) dX9_readLaw_53 fl_X9_84 lk_150 ?_
      rw [T1.1.2]
      refine wp_aload_n (pc := 56) dX9_readLaw_56 rfl ?_
      refine wf_getI (pc := 57) dX9_readLaw_57 fl_X9_81 lk_150 ?_
      rw [T1.1.1]
      refine wp_icmp_ge (pc := 60) 75 dX9_readLaw_60 (by decide) (fun h60 => ?_) (fun h60 => ?_)
      · refine wp_bipush (pc := 75) (x := (-9)) dX9_readLaw_75 bp_m9 ?_
        refine wf_iret (pc := 77) dX9_readLaw_77 rfl ?_
        rw [show k = n by omega] at b1
        exact ⟨sq, Or.inr ⟨rfl, l, q1, Λ1, P1, b1, b2, b3⟩⟩
      · exact absurd (nI_le (by omega) (by omega)) h60
    | succ q' ih =>
      intro k M1 hq hB sq
      obtain ⟨T1, l, q1, Λ1, P1, b1, b2, b3⟩ := hB
      have hkn := T1.2.2.2.2
      refine wp_aload_n (pc := 52) dX9_readLaw_52 rfl ?_
      refine wf_getI (pc := 53) dX9_readLaw_53 fl_X9_84 lk_150 ?_
      rw [T1.1.2]
      refine wp_aload_n (pc := 56) dX9_readLaw_56 rfl ?_
      refine wf_getI (pc := 57) dX9_readLaw_57 fl_X9_81 lk_150 ?_
      rw [T1.1.1]
      refine wp_icmp_ge (pc := 60) 75 dX9_readLaw_60 (by decide) (fun h60 => ?_) (fun h60 => ?_)
      · have ek : k = n := by rcases Nat.lt_or_ge k n with q | q; exact absurd h60 (nI_ge q (by omega)); omega
        refine wp_bipush (pc := 75) (x := (-9)) dX9_readLaw_75 bp_m9 ?_
        refine wf_iret (pc := 77) dX9_readLaw_77 rfl ?_
        rw [ek] at b1
        exact ⟨sq, Or.inr ⟨rfl, l, q1, Λ1, P1, b1, b2, b3⟩⟩
      · have hk : k < n := by rcases Nat.lt_or_ge k n with q | q; exact q; exact absurd (nI_le q (by omega)) h60
        refine wp_aload_n (pc := 63) dX9_readLaw_63 rfl ?_
        refine wf_callVi (pc := 64) dX9_readLaw_64 cl_X9_134 (c_readPart (l0 := l) (sq.rs hR) T1 hk b1 b2 b3) lk_150 rfl rfl rfl rfl (Nat.le_of_ble_eq_true rfl) (by decide) ⟨Nat.le_refl _, Nat.le_refl _⟩ (fun r64 M64 q64 => ?_)
        obtain ⟨b, hb64⟩ := q64.b
        subst hb64
        refine wp_if_ne (pc := 67) 52 dX9_readLaw_67 (by decide) (fun h67 => ?_) (fun h67 => ?_)
        · have h67 := b2i_1 h67
          obtain ⟨sq2, w⟩ := q64
          obtain ⟨k2, g1, g2⟩ : ∃ k2, k < k2 ∧ Btw (0, l0, q, Λ, P) T n M64 k2 := by
            rcases w with ⟨w, _⟩ | ⟨_, w⟩
            · rw [h67] at w; cases w
            · exact w
          exact ih k2 M64 (by omega) g2 (sq.tr sq2)
        · have h67 := b2i_0 h67
          obtain ⟨sq2, w⟩ := q64
          obtain ⟨k2, g1, g2⟩ : Bad (0, l0, q, Λ, P) T n M64 := by
            rcases w with ⟨_, w⟩ | ⟨w, _⟩
            · exact w
            · rw [h67] at w; cases w
          refine wp_aload_n (pc := 70) dX9_readLaw_70 rfl ?_
          refine wf_getI (pc := 71) dX9_readLaw_71 fl_X9_84 lk_150 ?_
          rw [g1.1.2]
          refine wf_iret (pc := 74) dX9_readLaw_74 rfl ?_
          exact ⟨sq.tr sq2, Or.inl ⟨k2, g2, g1.2.2.2.2, rfl⟩⟩
  refine wp_aload_n (pc := 0) dX9_readLaw_0 rfl ?_
  refine wp_ic (pc := 1) (x := nI 0) dX9_readLaw_1 ic_0 ?_
  refine wf_putI (pc := 2) dX9_readLaw_2 fl_X9_84 lk_150 ?_
  refine wp_aload_n (pc := 5) dX9_readLaw_5 rfl ?_
  refine wp_ic (pc := 6) (x := nI 0) dX9_readLaw_6 ic_0 ?_
  refine wf_putI (pc := 7) dX9_readLaw_7 fl_X9_100 lk_150 ?_
  refine wp_aload_n (pc := 10) dX9_readLaw_10 rfl ?_
  refine wp_ic (pc := 11) (x := nI 0) dX9_readLaw_11 ic_0 ?_
  refine wf_putI (pc := 12) dX9_readLaw_12 fl_X9_103 lk_150 ?_
  have T3 : RT (wI (wI (wI M 150 3 (nI 0)) 150 10 (nI 0)) 150 11 (nI 0)) T n 0 := ⟨⟨h1, rfl⟩, h2, h3, h4, Nat.zero_le _⟩
  have Q3 : Sq M (wI (wI (wI M 150 3 (nI 0)) 150 10 (nI 0)) 150 11 (nI 0)) := ((Sq.f (by omega)).tr (Sq.f (by omega))).tr (Sq.f (by omega))
  have g10 : (wI (wI (wI M 150 3 (nI 0)) 150 10 (nI 0)) 150 11 (nI 0)).1 150 10 = nI 0 := rfl
  have g11 : (wI (wI (wI M 150 3 (nI 0)) 150 10 (nI 0)) 150 11 (nI 0)).1 150 11 = nI 0 := rfl
  generalize (wI (wI (wI M 150 3 (nI 0)) 150 10 (nI 0)) 150 11 (nI 0)) = M3 at T3 Q3 g10 g11 ⊢
  refine wp_aload_n (pc := 15) dX9_readLaw_15 rfl ?_
  refine wf_getI (pc := 16) dX9_readLaw_16 fl_X9_81 lk_150 ?_
  rw [T3.1.1]
  refine wp_if_eq (pc := 19) 33 dX9_readLaw_19 (by decide) (fun h19 => ?_) (fun h19 => ?_)
  · have hbad : FLt (0, l0, q, Λ, P) T n 0 := fl_of rfl (by show (0 : Nat) ≠ 1; decide) (Nat.zero_le _) (fun w => absurd ((nI_eq (by omega) (show 0 < 2 ^ 31 by decide)).mp h19) (by omega))
    refine wp_ic (pc := 33) (x := nI 0) dX9_readLaw_33 ic_0 ?_
    refine wf_iret (pc := 34) dX9_readLaw_34 rfl ?_
    exact ⟨Q3, Or.inl ⟨0, hbad, Nat.zero_le _, rfl⟩⟩
  · have h0 : 0 < n := by rcases Nat.eq_zero_or_pos n with q | q; exact absurd (by rw [q]; rfl) h19; exact q
    have hb0 := (T3.byte h0).1
    refine wp_aload_n (pc := 22) dX9_readLaw_22 rfl ?_
    refine wf_getR (pc := 23) dX9_readLaw_23 fl_X9_7 lk_150 ((Q3.rs hR) 150 1 151 rfl) ?_
    refine wp_ic (pc := 26) (x := nI 0) dX9_readLaw_26 ic_0 ?_
    refine wf_iald (pc := 27) (j := 0) dX9_readLaw_27 lk_151 rfl (by omega) ?_
    rw [(T3.byte h0).2]
    refine wp_bipush (pc := 28) (x := nI 76) dX9_readLaw_28 bp_76 ?_
    refine wp_icmp_eq (pc := 30) 35 dX9_readLaw_30 (by decide) (fun h30 => ?_) (fun h30 => ?_)
    · have e76 : byt T 0 = 76 := (nI_eq (by omega) (by decide)).mp h30
      refine wp_aload_n (pc := 35) dX9_readLaw_35 rfl ?_
      refine wp_ic (pc := 36) (x := nI 1) dX9_readLaw_36 ic_1 ?_
      refine wf_putI (pc := 37) dX9_readLaw_37 fl_X9_84 lk_150 ?_
      have T4 := T3.nx h0
      have Q4 : Sq M (wI M3 150 3 (nI (0 + 1))) := Q3.tr (Sq.f (Or.inl rfl))
      have g10 : (wI M3 150 3 (nI (0 + 1))).1 150 10 = nI 0 := (wI_nk (by decide)).trans g10
      have g11 : (wI M3 150 3 (nI (0 + 1))).1 150 11 = nI 0 := (wI_nk (by decide)).trans g11
      have hs1 := rn_s (σ0 := (0, l0, q, Λ, P)) (T := T) (k := 0) rfl (stp_0 e76)
      rw [show nI 1 = nI (0 + 1) from rfl]
      generalize wI M3 150 3 (nI (0 + 1)) = M4 at T4 Q4 g10 g11 ⊢
      refine wp_aload_n (pc := 40) dX9_readLaw_40 rfl ?_
      refine wf_callVi (pc := 41) dX9_readLaw_41 cl_X9_131 (c_readHead (k := 0) (l0 := 0) (Q4.rs hR) T4 hs1 g10 g11 hD hM z) lk_150 rfl rfl rfl rfl (Nat.le_of_ble_eq_true rfl) (by decide) ⟨Nat.le_refl _, Nat.le_refl _⟩ (fun r41 M41 q41 => ?_)
      obtain ⟨b, hb41⟩ := q41.b
      subst hb41
      refine wp_if_ne (pc := 44) 52 dX9_readLaw_44 (by decide) (fun h44 => ?_) (fun h44 => ?_)
      · have h44 := b2i_1 h44
        obtain ⟨sq2, w⟩ := q41
        obtain ⟨k2, g1, g2⟩ : ∃ k2, 1 < k2 ∧ Btw (0, l0, q, Λ, P) T n M41 k2 := by
          rcases w with ⟨w, _⟩ | ⟨_, w⟩
          · rw [h44] at w; cases w
          · exact w
        exact loop n k2 M41 (by omega) g2 (Q4.tr sq2)
      · have h44 := b2i_0 h44
        obtain ⟨sq2, w⟩ := q41
        obtain ⟨k2, g1, g2⟩ : Bad (0, l0, q, Λ, P) T n M41 := by
          rcases w with ⟨_, w⟩ | ⟨w, _⟩
          · exact w
          · rw [h44] at w; cases w
        refine wp_aload_n (pc := 47) dX9_readLaw_47 rfl ?_
        refine wf_getI (pc := 48) dX9_readLaw_48 fl_X9_84 lk_150 ?_
        rw [g1.1.2]
        refine wf_iret (pc := 51) dX9_readLaw_51 rfl ?_
        exact ⟨Q4.tr sq2, Or.inl ⟨k2, g2, g1.2.2.2.2, rfl⟩⟩
    · have n76 : ¬ byt T 0 = 76 := fun q => h30 (by rw [q])
      have hbad : FLt (0, l0, q, Λ, P) T n 0 := fl_of rfl (by show (0 : Nat) ≠ 1; decide) (Nat.zero_le _) (fun w => stp_00 n76)
      refine wp_ic (pc := 33) (x := nI 0) dX9_readLaw_33 ic_0 ?_
      refine wf_iret (pc := 34) dX9_readLaw_34 rfl ?_
      exact ⟨Q3, Or.inl ⟨0, hbad, Nat.zero_le _, rfl⟩⟩
