/-- a contract of a method of java/lang/Math -/
theorem ciF_of {l : Launch} {K : CtxT} {d : Nat} {μ : MI} {vs : List Value} {M : Mm} {Q : Int32 → Mm → Prop} {L : List (Option Value)} (hp : plainFor μ.1 = true) (hlen : (lg_sl vs).length ≤ μ.2.2.1) (hL : enl vs ++ List.replicate (μ.2.2.1 - (enl vs).length) none = L) (hL2 : L.length = μ.2.2.1)
    (body : ∀ E : EnvT, Wp E K μ d (0, 0) 0 L [] 168 M 0 0 (zI E K Q)) : Ci l K d μ vs M Q := by
  unfold Ci Ct Met
  refine MetFree.of_bodySF (code := μ.2.1) (maxLocals := μ.2.2.1) (ret := μ.2.2.2) hp ?_ ?_
  · intro args s m h hn
    obtain ⟨meth, c, h1, h2, h3, h4, h5, h6, -, -⟩ := Cond.code_spec hn (atoms_spec (ws := Jvm.Cond.code μ.1 μ.2.1 μ.2.2.1 μ.2.2.2 :: gw) h _ List.mem_cons_self)
    exact ⟨meth, c, h1, h2, h3, h4, h5, h6⟩
  · intro p e s m args below meth c s₁ B hml hv _
    have hh0 : s₁.heap = s.heap := by rw [B.state]; rfl
    obtain ⟨rfl, hP, hK, hsz⟩ := hv
    have hts := atoms_spec (ws := Jvm.Cond.code μ.1 μ.2.1 μ.2.2.1 μ.2.2.2 :: gw) B.pre
    have hown : s.vm.findClass μ.1.cls = some m.cls := findClass_of_methodNamed B.named
    have h := body (p, l, e, rmD d 0 0, s, m, vs.toArray, below, meth, c) ⟨B.exec, B.bytes, hml, hown, fun w hw => hts w (List.mem_cons_of_mem _ hw), B.returns, B.notSynchronized, hK, (name_of_methodNamed B.named B.method).1, Nat.le_refl _, Nat.le_refl _, Nat.le_refl _, Nat.le_refl _, hsz⟩ s.heap []
    have hl := lv_entry vs (n := μ.2.2.1) hlen
    have hW := h _ hP va_S.rf ⟨hL2, _, hl, fun i v hi => by
      subst hL
      rcases Nat.lt_or_ge i (enl vs).length with q | q
      · rw [List.getElem?_append_left q] at hi
        have := enl_in vs 0 i v hi
        rwa [Nat.zero_add] at this
      · rw [List.getElem?_append_right q, List.getElem?_replicate] at hi
        split at hi <;> cases hi⟩
    obtain ⟨t, a1, o, b1, b2, b3⟩ := hW s₁ hh0 (Stand.of_body B)
    rw [lg_entry_eq]
    exact ⟨t, o, a1, b1, b2, ⟨b3.1, b3.2⟩⟩
theorem xor_pos {a b : Nat} (ha : a < 2 ^ 31) (hb : b < 2 ^ 31) : 0 ≤ nI a ^^^ nI b := by
  rw [nx_xor]
  exact nI_pos' (Nat.xor_lt_two_pow ha hb)
theorem c_floorMod {l : Launch} {K : CtxT} {M : Mm} {a b : Nat} (ha : a < 2 ^ 31) (hb : 0 < b) (hb2 : b < 2 ^ 31) : Ci l K 0 mJ9_floorMod_7cf53 [.int (nI a), .int (nI b)] M (fun r M' => r = nI (a % b) ∧ M' = M) := by
  refine ciF_of (L := [some (.int (nI a)), some (.int (nI b)), none]) (by decide +kernel) (Nat.le_of_ble_eq_true rfl) rfl rfl (fun E => ?_)
  refine wp_iload_n (pc := 0) dJ9_floorMod_7cf53_0 rfl ?_
  refine wp_iload_n (pc := 1) dJ9_floorMod_7cf53_1 rfl ?_
  refine wp_iremN (pc := 2) dJ9_floorMod_7cf53_2 rfl rfl ha hb hb2 ?_
  refine wp_istore_n (pc := 3) (L' := [_, _, _]) dJ9_floorMod_7cf53_3 (Nat.le_of_ble_eq_true rfl) rfl rfl ?_
  refine wp_iload_n (pc := 4) dJ9_floorMod_7cf53_4 rfl ?_
  refine wp_iload_n (pc := 5) dJ9_floorMod_7cf53_5 rfl ?_
  refine wp_ixor (pc := 6) dJ9_floorMod_7cf53_6 ?_
  refine wp_if_ge (pc := 7) 18 dJ9_floorMod_7cf53_7 (by decide) (fun h7 => ?_) (fun h7 => ?_)
  · refine wp_iload_n (pc := 18) dJ9_floorMod_7cf53_18 rfl ?_
    refine wf_iret (pc := 19) dJ9_floorMod_7cf53_19 rfl ?_
    exact ⟨rfl, rfl⟩
  · exact absurd (xor_pos ha hb2) h7
/-- how many bits of the first five -/
def pop5 (k : Nat) : Nat := k % 2 + k / 2 % 2 + k / 4 % 2 + k / 8 % 2 + k / 16 % 2
theorem c_bitCount {l : Launch} {K : CtxT} {M : Mm} {a : Nat} (ha : a < 32) : Ci l K 0 mJ6_bitCount_0f7a4 [.int (nI a)] M (fun r M' => r = nI (pop5 a) ∧ M' = M) := by
  refine ci_of (L := [some (.int (nI a))]) (by decide +kernel) (Nat.le_of_ble_eq_true rfl) rfl rfl (fun E => ?_)
  refine wp_iload_n (pc := 0) dJ6_bitCount_0f7a4_0 rfl ?_
  refine wp_iload_n (pc := 1) dJ6_bitCount_0f7a4_1 rfl ?_
  refine wp_ic (pc := 2) (x := nI 1) dJ6_bitCount_0f7a4_2 ic_1 ?_
  refine wp_iushr (pc := 3) dJ6_bitCount_0f7a4_3 ?_
  refine wp_ldcw (pc := 4) dJ6_bitCount_0f7a4_4 kc_J6_265 ?_
  refine wp_iand (pc := 7) dJ6_bitCount_0f7a4_7 ?_
  refine wp_isub (pc := 8) dJ6_bitCount_0f7a4_8 ?_
  refine wp_istore_n (pc := 9) (L' := [_]) dJ6_bitCount_0f7a4_9 (Nat.le_of_ble_eq_true rfl) rfl rfl ?_
  refine wp_iload_n (pc := 10) dJ6_bitCount_0f7a4_10 rfl ?_
  refine wp_ldcw (pc := 11) dJ6_bitCount_0f7a4_11 kc_J6_266 ?_
  refine wp_iand (pc := 14) dJ6_bitCount_0f7a4_14 ?_
  refine wp_iload_n (pc := 15) dJ6_bitCount_0f7a4_15 rfl ?_
  refine wp_ic (pc := 16) (x := nI 2) dJ6_bitCount_0f7a4_16 ic_2 ?_
  refine wp_iushr (pc := 17) dJ6_bitCount_0f7a4_17 ?_
  refine wp_ldcw (pc := 18) dJ6_bitCount_0f7a4_18 kc_J6_266 ?_
  refine wp_iand (pc := 21) dJ6_bitCount_0f7a4_21 ?_
  refine wp_iadd (pc := 22) dJ6_bitCount_0f7a4_22 ?_
  refine wp_istore_n (pc := 23) (L' := [_]) dJ6_bitCount_0f7a4_23 (Nat.le_of_ble_eq_true rfl) rfl rfl ?_
  refine wp_iload_n (pc := 24) dJ6_bitCount_0f7a4_24 rfl ?_
  refine wp_iload_n (pc := 25) dJ6_bitCount_0f7a4_25 rfl ?_
  refine wp_ic (pc := 26) (x := nI 4) dJ6_bitCount_0f7a4_26 ic_4 ?_
  refine wp_iushr (pc := 27) dJ6_bitCount_0f7a4_27 ?_
  refine wp_iadd (pc := 28) dJ6_bitCount_0f7a4_28 ?_
  refine wp_ldcw (pc := 29) dJ6_bitCount_0f7a4_29 kc_J6_267 ?_
  refine wp_iand (pc := 32) dJ6_bitCount_0f7a4_32 ?_
  refine wp_istore_n (pc := 33) (L' := [_]) dJ6_bitCount_0f7a4_33 (Nat.le_of_ble_eq_true rfl) rfl rfl ?_
  refine wp_iload_n (pc := 34) dJ6_bitCount_0f7a4_34 rfl ?_
  refine wp_iload_n (pc := 35) dJ6_bitCount_0f7a4_35 rfl ?_
  refine wp_bipush (pc := 36) (x := nI 8) dJ6_bitCount_0f7a4_36 bp_8 ?_
  refine wp_iushr (pc := 38) dJ6_bitCount_0f7a4_38 ?_
  refine wp_iadd (pc := 39) dJ6_bitCount_0f7a4_39 ?_
  refine wp_istore_n (pc := 40) (L' := [_]) dJ6_bitCount_0f7a4_40 (Nat.le_of_ble_eq_true rfl) rfl rfl ?_
  refine wp_iload_n (pc := 41) dJ6_bitCount_0f7a4_41 rfl ?_
  refine wp_iload_n (pc := 42) dJ6_bitCount_0f7a4_42 rfl ?_
  refine wp_bipush (pc := 43) (x := nI 16) dJ6_bitCount_0f7a4_43 bp_16 ?_
  refine wp_iushr (pc := 45) dJ6_bitCount_0f7a4_45 ?_
  refine wp_iadd (pc := 46) dJ6_bitCount_0f7a4_46 ?_
  refine wp_istore_n (pc := 47) (L' := [_]) dJ6_bitCount_0f7a4_47 (Nat.le_of_ble_eq_true rfl) rfl rfl ?_
  refine wp_iload_n (pc := 48) dJ6_bitCount_0f7a4_48 rfl ?_
  refine wp_bipush (pc := 49) (x := nI 63) dJ6_bitCount_0f7a4_49 bp_63 ?_
  refine wp_iand (pc := 51) dJ6_bitCount_0f7a4_51 ?_
  refine wf_iret (pc := 52) dJ6_bitCount_0f7a4_52 rfl ?_
  refine ⟨?_, rfl⟩
  clear E l K M
  revert a
  decide +kernel
theorem c_streetBy {l : Launch} {K : CtxT} {M : Mm} {s v : Nat} (hs : s < 5) (hv : v < 3) : Ci l K 0 mX8_streetBy [.int (nI s), .int (nI v)] M (fun r M' => r = nI (stN s v) ∧ M' = M) := by
  refine ci_of (L := [some (.int (nI s)), some (.int (nI v))]) (by decide +kernel) (Nat.le_of_ble_eq_true rfl) rfl rfl (fun E => ?_)
  refine wp_iload_n (pc := 0) dX8_streetBy_0 rfl ?_
  refine wp_iload_n (pc := 1) dX8_streetBy_1 rfl ?_
  refine wp_ic (pc := 2) (x := nI 2) dX8_streetBy_2 ic_2 ?_
  refine wp_icmp_ne (pc := 3) 10 dX8_streetBy_3 (by decide) (fun h3 => ?_) (fun h3 => ?_)
  · have e3 : s + (if v = 2 then 4 else v) = s + v := by rw [if_neg (fun q => h3 (by rw [q]))]
    refine wp_iload_n (pc := 10) dX8_streetBy_10 rfl ?_
    refine wp_iadd (pc := 11) dX8_streetBy_11 ?_
    refine wp_top (nI (s + (if v = 2 then 4 else v))) (by rw [nI_add, e3]) ?_
    refine wp_ic (pc := 12) (x := nI 5) dX8_streetBy_12 ic_5 ?_
    refine wp_iremN (pc := 13) dX8_streetBy_13 rfl rfl (by rw [e3]; omega) (by decide) (by decide) ?_
    refine wf_iret (pc := 14) dX8_streetBy_14 rfl ?_
    exact ⟨rfl, rfl⟩
  · have e3 : s + (if v = 2 then 4 else v) = s + 4 := by rw [if_pos ((nI_eq (by omega) (by decide)).mp h3)]
    refine wp_ic (pc := 6) (x := nI 4) dX8_streetBy_6 ic_4 ?_
    refine wp_goto (pc := 7) 11 dX8_streetBy_7 (by decide) ?_
    refine wp_iadd (pc := 11) dX8_streetBy_11 ?_
    refine wp_top (nI (s + (if v = 2 then 4 else v))) (by rw [nI_add, e3]) ?_
    refine wp_ic (pc := 12) (x := nI 5) dX8_streetBy_12 ic_5 ?_
    refine wp_iremN (pc := 13) dX8_streetBy_13 rfl rfl (by rw [e3]; omega) (by decide) (by decide) ?_
    refine wf_iret (pc := 14) dX8_streetBy_14 rfl ?_
    exact ⟨rfl, rfl⟩
theorem c_hasDog {l : Launch} {K : CtxT} {M : Mm} {w : Nat} {Λ : Lw} (hW : IL w) (hR : RS M) (hL : OkN Λ) (hx : XL M w Λ) {x : Int32} : Ci l K 0 mX2_hasDog [.ref (K.1 + w), .int x] M (fun r M' => r = b2i (inD x (lD Λ)) ∧ M' = M) := by
  refine ci_of (L := [some (.ref (K.1 + w)), some (.int x)]) (by decide +kernel) (Nat.le_of_ble_eq_true rfl) rfl rfl (fun E => ?_)
  refine wp_iload_n (pc := 0) dX2_hasDog_0 rfl ?_
  refine wp_if_lt (pc := 1) 16 dX2_hasDog_1 (by decide) (fun h1 => ?_) (fun h1 => ?_)
  · have e : inD x (lD Λ) = false := by simp [inD, h1]
    refine wp_ic (pc := 16) (x := nI 0) dX2_hasDog_16 ic_0 ?_
    refine wf_zret (pc := 17) (false) dX2_hasDog_17 rfl rfl ?_
    exact ⟨by rw [e], rfl⟩
  · refine wp_iload_n (pc := 4) dX2_hasDog_4 rfl ?_
    refine wp_aload_n (pc := 5) dX2_hasDog_5 rfl ?_
    refine wf_getI (pc := 6) dX2_hasDog_6 fl_X2_9 hW.1 ?_
    rw [hx.1]
    refine wp_icmp_ge (pc := 9) 16 dX2_hasDog_9 (by decide) (fun h9 => ?_) (fun h9 => ?_)
    · have e : inD x (lD Λ) = false := by simp [inD, h9]
      refine wp_ic (pc := 16) (x := nI 0) dX2_hasDog_16 ic_0 ?_
      refine wf_zret (pc := 17) (false) dX2_hasDog_17 rfl rfl ?_
      exact ⟨by rw [e], rfl⟩
    · have e : inD x (lD Λ) = true := by simp [inD, h1, h9]
      refine wp_ic (pc := 12) (x := nI 1) dX2_hasDog_12 ic_1 ?_
      refine wp_goto (pc := 13) 17 dX2_hasDog_13 (by decide) ?_
      refine wf_zret (pc := 17) (true) dX2_hasDog_17 rfl rfl ?_
      exact ⟨by rw [e], rfl⟩
theorem c_hasMan {l : Launch} {K : CtxT} {M : Mm} {w : Nat} {Λ : Lw} (hW : IL w) (hR : RS M) (hL : OkN Λ) (hx : XL M w Λ) {x : Int32} : Ci l K 0 mX2_hasMan [.ref (K.1 + w), .int x] M (fun r M' => r = b2i (inD x (lM Λ)) ∧ M' = M) := by
  refine ci_of (L := [some (.ref (K.1 + w)), some (.int x)]) (by decide +kernel) (Nat.le_of_ble_eq_true rfl) rfl rfl (fun E => ?_)
  refine wp_iload_n (pc := 0) dX2_hasMan_0 rfl ?_
  refine wp_if_lt (pc := 1) 16 dX2_hasMan_1 (by decide) (fun h1 => ?_) (fun h1 => ?_)
  · have e : inD x (lM Λ) = false := by simp [inD, h1]
    refine wp_ic (pc := 16) (x := nI 0) dX2_hasMan_16 ic_0 ?_
    refine wf_zret (pc := 17) (false) dX2_hasMan_17 rfl rfl ?_
    exact ⟨by rw [e], rfl⟩
  · refine wp_iload_n (pc := 4) dX2_hasMan_4 rfl ?_
    refine wp_aload_n (pc := 5) dX2_hasMan_5 rfl ?_
    refine wf_getI (pc := 6) dX2_hasMan_6 fl_X2_15 hW.1 ?_
    rw [hx.2.1]
    refine wp_icmp_ge (pc := 9) 16 dX2_hasMan_9 (by decide) (fun h9 => ?_) (fun h9 => ?_)
    · have e : inD x (lM Λ) = false := by simp [inD, h9]
      refine wp_ic (pc := 16) (x := nI 0) dX2_hasMan_16 ic_0 ?_
      refine wf_zret (pc := 17) (false) dX2_hasMan_17 rfl rfl ?_
      exact ⟨by rw [e], rfl⟩
    · have e : inD x (lM Λ) = true := by simp [inD, h1, h9]
      refine wp_ic (pc := 12) (x := nI 1) dX2_hasMan_12 ic_1 ?_
      refine wp_goto (pc := 13) 17 dX2_hasMan_13 (by decide) ?_
      refine wf_zret (pc := 17) (true) dX2_hasMan_17 rfl rfl ?_
      exact ⟨by rw [e], rfl⟩
theorem c_sings {l : Launch} {K : CtxT} {M : Mm} {w : Nat} {Λ : Lw} (hW : IL w) (hR : RS M) (hL : OkN Λ) (hx : XL M w Λ) {m : Nat} (hm : m < lM Λ) : Ci l K 0 mX2_sings [.ref (K.1 + w), .int (nI m)] M (fun r M' => r = b2i (decide (lSi Λ m = nI 1)) ∧ M' = M) := by
  refine ci_of (L := [some (.ref (K.1 + w)), some (.int (nI m))]) (by decide +kernel) (Nat.le_of_ble_eq_true rfl) rfl rfl (fun E => ?_)
  refine wp_aload_n (pc := 0) dX2_sings_0 rfl ?_
  refine wf_getI (pc := 1) dX2_sings_1 fl_X2_21 hW.1 ?_
  refine wp_iload_n (pc := 4) dX2_sings_4 rfl ?_
  refine wp_ishr (pc := 5) dX2_sings_5 ?_
  refine wp_ic (pc := 6) (x := nI 1) dX2_sings_6 ic_1 ?_
  refine wp_iand (pc := 7) dX2_sings_7 ?_
  refine wp_ic (pc := 8) (x := nI 1) dX2_sings_8 ic_1 ?_
  refine wp_icmp_ne (pc := 9) 16 dX2_sings_9 (by decide) (fun h9 => ?_) (fun h9 => ?_)
  · have e : ¬ lSi Λ m = nI 1 := fun q => h9 ((hx.2.2.2.1 m hm).mpr q)
    refine wp_ic (pc := 16) (x := nI 0) dX2_sings_16 ic_0 ?_
    refine wf_zret (pc := 17) (false) dX2_sings_17 rfl rfl ?_
    exact ⟨by simp [e, b2i], rfl⟩
  · have e : lSi Λ m = nI 1 := (hx.2.2.2.1 m hm).mp h9
    refine wp_ic (pc := 12) (x := nI 1) dX2_sings_12 ic_1 ?_
    refine wp_goto (pc := 13) 17 dX2_sings_13 (by decide) ?_
    refine wf_zret (pc := 17) (true) dX2_sings_17 rfl rfl ?_
    exact ⟨by simp [e, b2i], rfl⟩
theorem c_wardenAt {l : Launch} {K : CtxT} {M : Mm} {w : Nat} {Λ : Lw} (hW : IL w) (hR : RS M) (hL : OkN Λ) (hx : XL M w Λ) {h : Nat} (hh : h < 2 ^ 31) : Ci l K 1 mX2_wardenAt [.ref (K.1 + w), .int (nI h)] M (fun r M' => r = lRo Λ (h % 4) ∧ M' = M) := by
  refine ci_of (L := [some (.ref (K.1 + w)), some (.int (nI h))]) (by decide +kernel) (Nat.le_of_ble_eq_true rfl) rfl rfl (fun E => ?_)
  refine wp_aload_n (pc := 0) dX2_wardenAt_0 rfl ?_
  refine wf_getR (pc := 1) dX2_wardenAt_1 fl_X2_24 hW.1 (hR _ _ _ (rt_L4 hW)) ?_
  refine wp_iload_n (pc := 4) dX2_wardenAt_4 rfl ?_
  refine wp_ic (pc := 5) (x := nI 4) dX2_wardenAt_5 ic_4 ?_
  refine wf_callSi (pc := 6) dX2_wardenAt_6 cl_X2_43 (c_floorMod hh (by decide) (by decide)) rfl rfl (Nat.le_of_ble_eq_true rfl) (by decide) ⟨Nat.le_refl _, Nat.le_refl _⟩ (fun r6 M6 q6 => ?_)
  rw [q6.1, q6.2]
  refine wf_iald (pc := 9) (j := (h % 4)) dX2_wardenAt_9 hW.2.1 rfl (by omega) ?_
  refine wf_iret (pc := 10) dX2_wardenAt_10 rfl ?_
  exact ⟨hx.2.2.2.2.1 _ (by omega), rfl⟩
theorem c_isLeashed {l : Launch} {K : CtxT} {M : Mm} {t m : Nat} {Λ : Lw} {P : Pg} (hT : IT t) (ht : XT M t Λ P) : Ci l K 0 mX7_isLeashed [.ref (K.1 + t), .int (nI m)] M (fun r M' => r = b2i (decide (bat (P 18) m = nI 1)) ∧ M' = M) := by
  refine ci_of (L := [some (.ref (K.1 + t)), some (.int (nI m))]) (by decide +kernel) (Nat.le_of_ble_eq_true rfl) rfl rfl (fun E => ?_)
  refine wp_aload_n (pc := 0) dX7_isLeashed_0 rfl ?_
  refine wf_getI (pc := 1) dX7_isLeashed_1 fl_X7_15 hT.1 ?_
  rw [ht.2.1]
  refine wp_iload_n (pc := 4) dX7_isLeashed_4 rfl ?_
  refine wp_ishr (pc := 5) dX7_isLeashed_5 ?_
  refine wp_ic (pc := 6) (x := nI 1) dX7_isLeashed_6 ic_1 ?_
  refine wp_iand (pc := 7) dX7_isLeashed_7 ?_
  refine wp_ic (pc := 8) (x := nI 1) dX7_isLeashed_8 ic_1 ?_
  refine wp_icmp_ne (pc := 9) 16 dX7_isLeashed_9 (by decide) (fun h9 => ?_) (fun h9 => ?_)
  · refine wp_ic (pc := 16) (x := nI 0) dX7_isLeashed_16 ic_0 ?_
    refine wf_zret (pc := 17) (false) dX7_isLeashed_17 rfl rfl ?_
    exact ⟨by simp [h9, b2i], rfl⟩
  · refine wp_ic (pc := 12) (x := nI 1) dX7_isLeashed_12 ic_1 ?_
    refine wp_goto (pc := 13) 17 dX7_isLeashed_13 (by decide) ?_
    refine wf_zret (pc := 17) (true) dX7_isLeashed_17 rfl rfl ?_
    exact ⟨by simp [h9, b2i], rfl⟩
theorem c_isImpounded {l : Launch} {K : CtxT} {M : Mm} {t m : Nat} {Λ : Lw} {P : Pg} (hT : IT t) (hR : RS M) (ht : XT M t Λ P) (hm : m < lM Λ) (hm5 : m < 5) : Ci l K 0 mX7_isImpounded [.ref (K.1 + t), .int (nI m)] M (fun r M' => r = b2i (decide (0 < P (19 + m))) ∧ M' = M) := by
  refine ci_of (L := [some (.ref (K.1 + t)), some (.int (nI m))]) (by decide +kernel) (Nat.le_of_ble_eq_true rfl) rfl rfl (fun E => ?_)
  refine wp_aload_n (pc := 0) dX7_isImpounded_0 rfl ?_
  refine wf_getR (pc := 1) dX7_isImpounded_1 fl_X7_31 hT.1 (hR _ _ _ (rt_T6 hT)) ?_
  refine wp_iload_n (pc := 4) dX7_isImpounded_4 rfl ?_
  refine wf_iald (pc := 5) (j := m) dX7_isImpounded_5 hT.2.2.2.2.2 rfl (by omega) ?_
  rw [(ht.2.2.2 m hm).2.2]
  refine wp_if_le (pc := 6) 13 dX7_isImpounded_6 (by decide) (fun h6 => ?_) (fun h6 => ?_)
  · refine wp_ic (pc := 13) (x := nI 0) dX7_isImpounded_13 ic_0 ?_
    refine wf_zret (pc := 14) (false) dX7_isImpounded_14 rfl rfl ?_
    exact ⟨by simp [h6, b2i], rfl⟩
  · refine wp_ic (pc := 9) (x := nI 1) dX7_isImpounded_9 ic_1 ?_
    refine wp_goto (pc := 10) 14 dX7_isImpounded_10 (by decide) ?_
    refine wf_zret (pc := 14) (true) dX7_isImpounded_14 rfl rfl ?_
    exact ⟨by simp [h6, b2i], rfl⟩
theorem c_isLate {l : Launch} {K : CtxT} {M : Mm} {h : Nat} {x : Int32} (hh : h < 2 ^ 31) : Ci l K 1 mX7_isLate [.int (nI h), .int x] M (fun r M' => r = b2i (decide (x ≤ nI (h % 12))) ∧ M' = M) := by
  refine ci_of (L := [some (.int (nI h)), some (.int x)]) (by decide +kernel) (Nat.le_of_ble_eq_true rfl) rfl rfl (fun E => ?_)
  refine wp_iload_n (pc := 0) dX7_isLate_0 rfl ?_
  refine wp_bipush (pc := 1) (x := nI 12) dX7_isLate_1 bp_12 ?_
  refine wf_callSi (pc := 3) dX7_isLate_3 cl_X7_87 (c_floorMod hh (by decide) (by decide)) rfl rfl (Nat.le_of_ble_eq_true rfl) (by decide) ⟨Nat.le_refl _, Nat.le_refl _⟩ (fun r3 M3 q3 => ?_)
  rw [q3.1, q3.2]
  refine wp_iload_n (pc := 6) dX7_isLate_6 rfl ?_
  refine wp_icmp_lt (pc := 7) 14 dX7_isLate_7 (by decide) (fun h7 => ?_) (fun h7 => ?_)
  · have e : ¬ x ≤ nI (h % 12) := Int32.not_le.mpr h7
    refine wp_ic (pc := 14) (x := nI 0) dX7_isLate_14 ic_0 ?_
    refine wf_zret (pc := 15) (false) dX7_isLate_15 rfl rfl ?_
    exact ⟨by simp [e, b2i], rfl⟩
  · have e : x ≤ nI (h % 12) := Int32.not_lt.mp h7
    refine wp_ic (pc := 10) (x := nI 1) dX7_isLate_10 ic_1 ?_
    refine wp_goto (pc := 11) 15 dX7_isLate_11 (by decide) ?_
    refine wf_zret (pc := 15) (true) dX7_isLate_15 rfl rfl ?_
    exact ⟨by simp [e, b2i], rfl⟩
theorem c_mayBeCaught {l : Launch} {K : CtxT} {M : Mm} {t w : Nat} {Λ : Lw} {P : Pg} (hT : IT t) (hW : IL w) (hR : RS M) (hL : OkN Λ) (hx : XL M w Λ) (ht : XT M t Λ P) {m : Nat} (hm : m < lM Λ) {late : Bool} : Ci l K 1 mX7_mayBeCaught [.ref (K.1 + t), .ref (K.1 + w), .int (nI m), .int (b2i late)] M (fun r M' => r = b2i (mayP Λ P m late) ∧ M' = M) := by
  have hm5 : m < 5 := Nat.lt_of_lt_of_le hm hL.2.1
  refine ci_of (L := [some (.ref (K.1 + t)), some (.ref (K.1 + w)), some (.int (nI m)), some (.int (b2i late))]) (by decide +kernel) (Nat.le_of_ble_eq_true rfl) rfl rfl (fun E => ?_)
  refine wp_aload_n (pc := 0) dX7_mayBeCaught_0 rfl ?_
  refine wf_getR (pc := 1) dX7_mayBeCaught_1 fl_X7_25 hT.1 (hR _ _ _ (rt_T4 hT)) ?_
  refine wp_iload_n (pc := 4) dX7_mayBeCaught_4 rfl ?_
  refine wf_iald (pc := 5) (j := m) dX7_mayBeCaught_5 hT.2.2.2.1 rfl (by omega) ?_
  rw [(ht.2.2.2 m hm).1]
  refine wp_bipush (pc := 6) (x := (-9)) dX7_mayBeCaught_6 bp_m9 ?_
  refine wp_icmp_eq (pc := 8) 31 dX7_mayBeCaught_8 (by decide) (fun h8 => ?_) (fun h8 => ?_)
  · refine wp_ic (pc := 31) (x := nI 1) dX7_mayBeCaught_31 ic_1 ?_
    refine wp_goto (pc := 32) 36 dX7_mayBeCaught_32 (by decide) ?_
    refine wf_zret (pc := 36) (true) dX7_mayBeCaught_36 rfl rfl ?_
    exact ⟨by simp [mayP, *], rfl⟩
  · refine wp_aload_n (pc := 11) dX7_mayBeCaught_11 rfl ?_
    refine wp_iload_n (pc := 12) dX7_mayBeCaught_12 rfl ?_
    refine wf_callVi (pc := 13) dX7_mayBeCaught_13 cl_X7_92 (c_isLeashed hT ht) hT.1 rfl rfl rfl rfl (Nat.le_of_ble_eq_true rfl) (by decide) ⟨Nat.le_refl _, Nat.le_refl _⟩ (fun r13 M13 q13 => ?_)
    rw [q13.1, q13.2]
    refine wp_if_ne (pc := 16) 35 dX7_mayBeCaught_16 (by decide) (fun h16 => ?_) (fun h16 => ?_)
    · have h16 := b2i_1 h16
      have h16 := of_decide_eq_true h16
      refine wp_ic (pc := 35) (x := nI 0) dX7_mayBeCaught_35 ic_0 ?_
      refine wf_zret (pc := 36) (false) dX7_mayBeCaught_36 rfl rfl ?_
      exact ⟨by simp [mayP, *], rfl⟩
    · have h16 := b2i_0 h16
      have h16 := of_decide_eq_false h16
      refine wp_iload_n (pc := 19) dX7_mayBeCaught_19 rfl ?_
      refine wp_if_ne (pc := 20) 31 dX7_mayBeCaught_20 (by decide) (fun h20 => ?_) (fun h20 => ?_)
      · have h20 := b2i_1 h20
        refine wp_ic (pc := 31) (x := nI 1) dX7_mayBeCaught_31 ic_1 ?_
        refine wp_goto (pc := 32) 36 dX7_mayBeCaught_32 (by decide) ?_
        refine wf_zret (pc := 36) (true) dX7_mayBeCaught_36 rfl rfl ?_
        exact ⟨by simp [mayP, *], rfl⟩
      · have h20 := b2i_0 h20
        refine wp_aload_n (pc := 23) dX7_mayBeCaught_23 rfl ?_
        refine wp_iload_n (pc := 24) dX7_mayBeCaught_24 rfl ?_
        refine wf_callVi (pc := 25) dX7_mayBeCaught_25 cl_X7_95 (c_sings hW hR hL hx hm) hW.1 rfl rfl rfl rfl (Nat.le_of_ble_eq_true rfl) (by decide) ⟨Nat.le_refl _, Nat.le_refl _⟩ (fun r25 M25 q25 => ?_)
        rw [q25.1, q25.2]
        refine wp_if_eq (pc := 28) 35 dX7_mayBeCaught_28 (by decide) (fun h28 => ?_) (fun h28 => ?_)
        · have h28 := b2i_0 h28
          have h28 := of_decide_eq_false h28
          refine wp_ic (pc := 35) (x := nI 0) dX7_mayBeCaught_35 ic_0 ?_
          refine wf_zret (pc := 36) (false) dX7_mayBeCaught_36 rfl rfl ?_
          exact ⟨by simp [mayP, *], rfl⟩
        · have h28 := b2i_1 h28
          have h28 := of_decide_eq_true h28
          refine wp_ic (pc := 31) (x := nI 1) dX7_mayBeCaught_31 ic_1 ?_
          refine wp_goto (pc := 32) 36 dX7_mayBeCaught_32 (by decide) ?_
          refine wf_zret (pc := 36) (true) dX7_mayBeCaught_36 rfl rfl ?_
          exact ⟨by simp [mayP, *], rfl⟩
