theorem rn_none {σ0 : Rs} {T : Pg} {k : Nat} (h : rnS σ0 T k = none) : ∀ j, rnS σ0 T (k + j) = none
  | 0 => h
  | j + 1 => by
    show (rnS σ0 T (k + j)).bind _ = none
    rw [rn_none h j]
    rfl
theorem fl_some {σ0 σ : Rs} {T : Pg} {n k : Nat} (h : FLt σ0 T n k) (h2 : rnS σ0 T n = some σ) (h3 : σ.1 = 1) : False := by
  obtain ⟨τ, t1, t2⟩ := h
  rcases t2 with ⟨t2, t3⟩ | ⟨t2, t3⟩
  · have := rn_none (rn_s t1 t3) (n - (k + 1))
    rw [show k + 1 + (n - (k + 1)) = n by omega, h2] at this
    cases this
  · subst t2
    rw [t1] at h2
    cases h2
    exact t3 h3
theorem fl_le {σ0 : Rs} {T : Pg} {n k k' : Nat} (h : FLt σ0 T n k) (h' : FLt σ0 T n k') : k ≤ k' := by
  rcases Nat.lt_or_ge k' k with q | q
  · exfalso
    obtain ⟨τ, t1, t2⟩ := h
    obtain ⟨τ', u1, u2⟩ := h'
    have hk : k ≤ n := by rcases t2 with t | t <;> omega
    rcases u2 with ⟨u2, u3⟩ | ⟨u2, u3⟩
    · have := rn_none (rn_s u1 u3) (k - (k' + 1))
      rw [show k' + 1 + (k - (k' + 1)) = k by omega, t1] at this
      cases this
    · omega
  · exact q
theorem fl_uq {σ0 : Rs} {T : Pg} {n k k' : Nat} (h : FLt σ0 T n k) (h' : FLt σ0 T n k') : k = k' := Nat.le_antisymm (fl_le h h') (fl_le h' h)
theorem XM.sq {M M' : Mm} {s : Sv} (H : XM M s) (q : Sq M M') : XM M' s := H.chg q.1 (fun k hk => q.2.1 k (by omega) (by omega)) (fun a ha k => q.2.2 a (by omega) (by omega) k)
theorem Sq.fm {M M' : Mm} (q : Sq M M') : Fm M M' := ⟨fun a ha k => ⟨q.2.2 a (by omega) (by omega) k, by rw [q.1]⟩, by rw [q.1]⟩
/-- what the reading of a text comes to, without the rows -/
def Fq (σ0 : Rs) (T : Pg) (n : Nat) (r : Int32) : Prop := (∃ k, FLt σ0 T n k ∧ k ≤ n ∧ r = nI k) ∨ (r = no9 ∧ ∃ σ, rnS σ0 T n = some σ ∧ σ.1 = 1)
theorem Fq.uq {σ0 : Rs} {T : Pg} {n : Nat} {r r' : Int32} (h : Fq σ0 T n r) (h' : Fq σ0 T n r') : r = r' := by
  rcases h with ⟨k, h1, _, h2⟩ | ⟨h1, σ, h2, h3⟩
  · rcases h' with ⟨k', g1, _, g2⟩ | ⟨g1, σ', g2, g3⟩
    · rw [h2, g2, fl_uq h1 g1]
    · exact (fl_some h1 g2 g3).elim
  · rcases h' with ⟨k', g1, _, g2⟩ | ⟨g1, σ', g2, g3⟩
    · exact (fl_some g1 h2 h3).elim
    · rw [h1, g1]
theorem RQ.fq {σ0 : Rs} {T : Pg} {n : Nat} {M M' : Mm} {r : Int32} (h : RQ σ0 T n M r M') : Fq σ0 T n r := by
  rcases h.2 with w | ⟨w1, l, q, Λ, P, w2, _⟩
  · exact Or.inl w
  · exact Or.inr ⟨w1, _, w2, rfl⟩
theorem cm_fault {l : Launch} {K : CtxT} {M : Mm} {s : Sv} {B : Nat} (H : XM M s) (V : OkV B s) (hB : B ≤ 9999) {l0 q : Nat} {Λ : Lw} {P : Pg} (hD : lD Λ = 0) (hM : lM Λ = 0) (z : ZP P) : Ci l K 6 mX9_fault [.ref (K.1 + 150)] M (fun r M' => Fq (0, l0, q, Λ, P) s.T s.n r ∧ XM M' s ∧ Fm M M') := by
  refine ci_of (L := [some (.ref (K.1 + 150))]) (by decide +kernel) (Nat.le_of_ble_eq_true rfl) rfl rfl (fun E => ?_)
  refine wp_aload_n (pc := 0) dX9_fault_0 rfl ?_
  refine wp_ic (pc := 1) (x := nI 0) dX9_fault_1 ic_0 ?_
  refine wf_putI (pc := 2) dX9_fault_2 fl_X9_66 lk_150 ?_
  have F : Fm M (wI M 150 0 (nI 0)) := Fm.w (by decide)
  have H := H.f (k := 0) (nI 0) (by decide)
  generalize wI M 150 0 (nI 0) = M5 at H F ⊢
  refine wp_aload_n (pc := 5) dX9_fault_5 rfl ?_
  refine wf_callVi (pc := 6) dX9_fault_6 cl_X9_137 (c_readLaw (l0 := l0) (q := q) H.r H.t.1 H.t.2 V.t V.n hD hM z) lk_150 rfl rfl rfl rfl (Nat.le_of_ble_eq_true rfl) (by decide) ⟨Nat.le_refl _, Nat.le_refl _⟩ (fun r6 M6 q6 => ?_)
  refine wf_iret (pc := 9) dX9_fault_9 rfl ?_
  exact ⟨q6.fq, H.sq q6.1, F.tr q6.1.fm⟩
/-- what a new law leaves of the reference -/
def So (M M' : Mm) : Prop := M'.2 = M.2 ∧ (∀ k, (k = 2 ∨ k = 22) → M'.1 150 k = M.1 150 k) ∧ ∀ a, (a < 150 ∨ a = 151 ∨ 163 ≤ a) → ∀ k, M'.1 a k = M.1 a k
theorem So.tr {M M1 M2 : Mm} (h1 : So M M1) (h2 : So M1 M2) : So M M2 := ⟨h2.1.trans h1.1, fun k hk => (h2.2.1 k hk).trans (h1.2.1 k hk), fun a ha k => (h2.2.2 a ha k).trans (h1.2.2 a ha k)⟩
theorem So.w {M : Mm} {a k : Nat} {x : Int32} (ha : 150 ≤ a ∧ a < 163 ∧ a ≠ 151) (hk : a = 150 → k ≠ 2 ∧ k ≠ 22) : So M (wI M a k x) := by
  refine ⟨rfl, fun j hj => ?_, fun b hb j => wI_na (by omega)⟩
  by_cases e : a = 150
  · subst e; exact wI_nk (by have := hk rfl; omega)
  · exact wI_na (fun q => e q.symm)
theorem So.sq {M M' : Mm} (q : Sq M M') : So M M' := ⟨q.1, fun k hk => q.2.1 k (by omega) (by omega), fun a ha k => q.2.2 a (by omega) (by omega) k⟩
theorem So.rs {M M' : Mm} (h : So M M') (hR : RS M) : RS M' := hR.of (by rw [h.1])
def OE (M : Mm) (Λ : Lw) (P : Pg) (M1 : Mm) : Prop := So M M1 ∧ XQ M1 Λ P ∧ M1.1 150 4 = nI (lD Λ) ∧ M1.1 150 5 = nI (lM Λ) ∧ M1.1 150 6 = lLe Λ
theorem OE.w {M M1 : Mm} {Λ : Lw} {P : Pg} {a k : Nat} {x : Int32} (h : OE M Λ P M1) (ha : a = 152 ∨ a = 153 ∨ a = 154 ∨ a = 158) : OE M Λ P (wI M1 a k x) := by
  obtain ⟨h1, h2, h3, h4, h5⟩ := h
  exact ⟨h1.tr (So.w (by omega) (fun e => by omega)), h2.mv (fun j _ _ => wI_na (by omega)) (fun b _ _ j => wI_na (by omega)), (wI_na (by omega)).trans h3, (wI_na (by omega)).trans h4, (wI_na (by omega)).trans h5⟩
theorem cm_ordain {l : Launch} {K : CtxT} {M : Mm} {s : Sv} {B : Nat} (H : XM M s) (V : OkV B s) (hB : B ≤ 9999) {l0 q : Nat} {Λ : Lw} {P : Pg} (hD : lD Λ = 0) (hM : lM Λ = 0) (z : ZP P) : Ci l K 6 mX9_ordain [.ref (K.1 + 150)] M (fun r M' => Fm M M' ∧ ((r = -3 ∧ XM M' s ∧ ∃ k, FLt (0, l0, q, Λ, P) s.T s.n k) ∨ ∃ l q1 Λ1 P1, rnS (0, l0, q, Λ, P) s.T s.n = some (1, l, q1, Λ1, P1) ∧ OkF Λ1 P1 ∧ r = nI (10 * lD Λ1 + lM Λ1) ∧ XM M' (ordS s (1, l, q1, Λ1, P1)))) := by
  refine ci_of (L := [some (.ref (K.1 + 150)), none]) (by decide +kernel) (Nat.le_of_ble_eq_true rfl) rfl rfl (fun E => ?_)
  have hn := V.n
  have l6 : ∀ (l q1 : Nat) (Λ1 : Lw) (P1 : Pg) (M5 : Mm), rnS (0, l0, q, Λ, P) s.T s.n = some (1, l, q1, Λ1, P1) → OkF Λ1 P1 → XM M5 s → Fm M M5 → ∀ (n i : Nat) (M1 : Mm), n = lM Λ1 - i → i ≤ lM Λ1 → OE M5 Λ1 P1 M1 → (∀ j, j < 4 → M1.1 152 j = lRo Λ1 j) → (∀ j, j < 4 * lD Λ1 → M1.1 153 j = M1.1 156 j) → (∀ j, j < 3 * lM Λ1 → M1.1 154 j = M1.1 157 j) → (∀ j, j < 25 → M1.1 158 j = (if j < 4 then (if j < lD Λ1 then P1 j else 0) else if j < 8 then 0 else if j < 13 then (if j - 8 < i then P1 j else 0) else if j < 18 then (if j - 13 < i then P1 j else 0) else 0)) → Wp E K mX9_ordain 6 (0, 0) 179 [some (.ref (K.1 + 150)), some (.int (nI i))] [] 168 M1 0 0 (zI E K (fun r M' => Fm M M' ∧ ((r = -3 ∧ XM M' s ∧ ∃ k, FLt (0, l0, q, Λ, P) s.T s.n k) ∨ ∃ l q1 Λ1 P1, rnS (0, l0, q, Λ, P) s.T s.n = some (1, l, q1, Λ1, P1) ∧ OkF Λ1 P1 ∧ r = nI (10 * lD Λ1 + lM Λ1) ∧ XM M' (ordS s (1, l, q1, Λ1, P1))))) := by
    intro l q1 Λ1 P1 M5 hs hF H F n
    have hD1 := hF.1.1
    have hM1 := hF.1.2.1
    induction n with
    | zero =>
      intro i M1 hn hi O a1 a2 a3 a5
      refine wp_iload_n (pc := 179) dX9_ordain_179 rfl ?_
      refine wp_aload_n (pc := 180) dX9_ordain_180 rfl ?_
      refine wf_getI (pc := 181) dX9_ordain_181 fl_X9_76 lk_150 ?_
      rw [O.2.2.2.1]
      refine wp_icmp_ge (pc := 184) 229 dX9_ordain_184 (by decide) (fun h184 => ?_) (fun h184 => ?_)
      · refine wp_aload_n (pc := 229) dX9_ordain_229 rfl ?_
        refine wp_ic (pc := 230) (x := nI 0) dX9_ordain_230 ic_0 ?_
        refine wf_putI (pc := 231) dX9_ordain_231 fl_X9_140 lk_150 ?_
        refine wp_aload_n (pc := 234) dX9_ordain_234 rfl ?_
        refine wf_getR (pc := 235) dX9_ordain_235 fl_X9_47 lk_150 ((O.1.rs H.r) 150 21 162 rfl) ?_
        refine wp_ic (pc := 238) (x := nI 0) dX9_ordain_238 ic_0 ?_
        refine wp_ic (pc := 239) (x := nI 0) dX9_ordain_239 ic_0 ?_
        refine wf_bast (pc := 240) (j := 0) dX9_ordain_240 lk_162 rfl rfl (by omega) ?_
        refine wp_aload_n (pc := 241) dX9_ordain_241 rfl ?_
        refine wf_getR (pc := 242) dX9_ordain_242 fl_X9_47 lk_150 ((O.1.rs H.r) 150 21 162 rfl) ?_
        refine wp_ic (pc := 245) (x := nI 1) dX9_ordain_245 ic_1 ?_
        refine wp_ic (pc := 246) (x := nI 0) dX9_ordain_246 ic_0 ?_
        refine wf_bast (pc := 247) (j := 1) dX9_ordain_247 lk_162 rfl rfl (by omega) ?_
        refine wp_bipush (pc := 248) (x := nI 10) dX9_ordain_248 bp_10 ?_
        refine wp_aload_n (pc := 250) dX9_ordain_250 rfl ?_
        refine wf_getI (pc := 251) dX9_ordain_251 fl_X9_69 lk_150 ?_
        rw [show (wI (wI (wI M1 150 19 (nI 0)) 162 0 (nI 0)) 162 1 (nI 0)).1 150 4 = nI (lD Λ1) from O.2.2.1]
        refine wp_imul (pc := 254) dX9_ordain_254 ?_
        refine wp_aload_n (pc := 255) dX9_ordain_255 rfl ?_
        refine wf_getI (pc := 256) dX9_ordain_256 fl_X9_76 lk_150 ?_
        rw [show (wI (wI (wI M1 150 19 (nI 0)) 162 0 (nI 0)) 162 1 (nI 0)).1 150 5 = nI (lM Λ1) from O.2.2.2.1]
        refine wp_iadd (pc := 259) dX9_ordain_259 ?_
        refine wp_top (nI (10 * lD Λ1 + lM Λ1)) (by rw [pk_mul, nI_add]) ?_
        refine wf_iret (pc := 260) dX9_ordain_260 rfl ?_
        have ei : i = lM Λ1 := by omega
        subst ei
        obtain ⟨o1, o2, o3, o4, o5⟩ := O
        obtain ⟨z1, z2, z3, z4⟩ := hF.2.2.2.2
        refine ⟨F.tr ⟨fun a ha k => ⟨?_, ?_⟩, ?_⟩, Or.inr ⟨l, q1, Λ1, P1, hs, hF, rfl, ?_⟩⟩
        · rw [wI_na (by omega), wI_na (by omega), wI_na (by omega)]; exact o1.2.2 a (by omega) k
        · show M1.2.1 a k = _; rw [o1.1]
        · show M1.2.2 = _; rw [o1.1]
        obtain ⟨h1, ⟨h2, h3⟩, _, _, _, _, ⟨h8, h9⟩, h10⟩ := H
        refine ⟨o1.rs h1, ⟨(o1.2.1 2 (by simp)).trans h2, fun k hk => (o1.2.2 151 (by simp) k).trans (h3 k hk)⟩, ⟨o3, o4, o5, a1, fun d hd => ?_, fun m hm => ?_⟩, fun j hj => ?_, ⟨rfl, fun i hi => absurd hi (Nat.not_lt_zero _)⟩, fun k hk => ⟨?_, fun P hP => by cases hP⟩, ⟨(o1.2.1 22 (by simp)).trans h8, fun i hi => ?_⟩, ?_⟩
        · have hd : d < lD Λ1 := hd
          obtain ⟨g1, g2, g3, g4⟩ := o2.2.2.1 d hd
          exact ⟨(a2 _ (by omega)).trans g2, (a2 _ (by omega)).trans g3, (a2 _ (by omega)).trans g4⟩
        · have hm : m < lM Λ1 := hm
          exact (a3 _ (by omega)).trans (o2.2.2.2 m hm).2.2
        · rw [Nat.zero_add]
          refine (a5 j hj).trans ?_
          show _ = nrm Λ1 P1 j
          unfold nrm
          by_cases c1 : j < 4
          · rw [if_pos c1, if_pos c1]
          rw [if_neg c1, if_neg c1]
          by_cases c2 : j < 8
          · rw [if_pos c2, if_pos c2]
            have := z1 (j - 4) (by omega)
            rw [show 4 + (j - 4) = j by omega] at this
            rw [this]; split <;> rfl
          rw [if_neg c2, if_neg c2]
          by_cases c3 : j < 13
          · rw [if_pos c3, if_pos c3]
          rw [if_neg c3, if_neg c3]
          by_cases c4 : j < 18
          · rw [if_pos c4, if_pos c4]
          rw [if_neg c4, if_neg c4]
          by_cases c5 : j = 18
          · rw [if_pos c5, c5]; exact z3.symm
          rw [if_neg c5]
          by_cases c6 : j < 24
          · rw [if_pos c6]
            have := z2 (j - 19) (by omega)
            rw [show 19 + (j - 19) = j by omega] at this
            rw [this]; split <;> rfl
          rw [if_neg c6, show j = 24 by omega]
          exact z4.symm
        · show _ = nI 0
          rcases (show k = 0 ∨ k = 1 by omega) with rfl | rfl
          · rw [wI_nk (by decide), wI_at]
          · exact wI_at _ _ _ _
        · have e := fun a (ha : 163 ≤ a) j => o1.2.2 a (Or.inr (Or.inr ha)) j
          show M1.1 163 i = _ ∧ M1.1 164 i = _ ∧ M1.1 165 i = _
          rw [e 163 (by omega), e 164 (by omega), e 165 (by omega)]
          exact h9 i hi
        · show M1.2.1 150 26 = _; rw [o1.1]; exact h10
      · exact absurd (nI_le (by omega) (by omega)) h184
    | succ n ih =>
      intro i M1 hn hi O a1 a2 a3 a5
      refine wp_iload_n (pc := 179) dX9_ordain_179 rfl ?_
      refine wp_aload_n (pc := 180) dX9_ordain_180 rfl ?_
      refine wf_getI (pc := 181) dX9_ordain_181 fl_X9_76 lk_150 ?_
      rw [O.2.2.2.1]
      refine wp_icmp_ge (pc := 184) 229 dX9_ordain_184 (by decide) (fun h184 => ?_) (fun h184 => ?_)
      · exact absurd h184 (nI_ge (by omega) (by omega))
      · refine wp_aload_n (pc := 187) dX9_ordain_187 rfl ?_
        refine wf_getR (pc := 188) dX9_ordain_188 fl_X9_35 lk_150 ((O.1.rs H.r) 150 16 158 rfl) ?_
        refine wp_bipush (pc := 191) (x := nI 8) dX9_ordain_191 bp_8 ?_
        refine wp_iload_n (pc := 193) dX9_ordain_193 rfl ?_
        refine wp_iadd (pc := 194) dX9_ordain_194 ?_
        refine wp_aload_n (pc := 195) dX9_ordain_195 rfl ?_
        refine wf_getR (pc := 196) dX9_ordain_196 fl_X9_23 lk_150 ((O.1.rs H.r) 150 9 154 rfl) ?_
        refine wp_ic (pc := 199) (x := nI 3) dX9_ordain_199 ic_3 ?_
        refine wp_iload_n (pc := 200) dX9_ordain_200 rfl ?_
        refine wp_imul (pc := 201) dX9_ordain_201 ?_
        refine wf_iald (pc := 202) (j := (3 * i)) dX9_ordain_202 lk_154 (pk_mul _ _) (by omega) ?_
        rw [show M1.1 154 (3 * i) = P1 (8 + i) from (a3 _ (by omega)).trans (O.2.1.2.2.2 i (by omega)).1]
        refine wf_iast (pc := 203) (j := (8 + i)) dX9_ordain_203 lk_158 (nI_add _ _) (by omega) ?_
        refine wp_aload_n (pc := 204) dX9_ordain_204 rfl ?_
        refine wf_getR (pc := 205) dX9_ordain_205 fl_X9_35 lk_150 ((O.1.rs H.r) 150 16 158 rfl) ?_
        refine wp_bipush (pc := 208) (x := nI 13) dX9_ordain_208 bp_13 ?_
        refine wp_iload_n (pc := 210) dX9_ordain_210 rfl ?_
        refine wp_iadd (pc := 211) dX9_ordain_211 ?_
        refine wp_aload_n (pc := 212) dX9_ordain_212 rfl ?_
        refine wf_getR (pc := 213) dX9_ordain_213 fl_X9_23 lk_150 ((O.1.rs H.r) 150 9 154 rfl) ?_
        refine wp_ic (pc := 216) (x := nI 3) dX9_ordain_216 ic_3 ?_
        refine wp_iload_n (pc := 217) dX9_ordain_217 rfl ?_
        refine wp_imul (pc := 218) dX9_ordain_218 ?_
        refine wp_ic (pc := 219) (x := nI 1) dX9_ordain_219 ic_1 ?_
        refine wp_iadd (pc := 220) dX9_ordain_220 ?_
        refine wf_iald (pc := 221) (j := (3 * i + 1)) dX9_ordain_221 lk_154 (by rw [pk_mul, nI_add]) (by omega) ?_
        rw [show (wI M1 158 (8 + i) (P1 (8 + i))).1 154 (3 * i + 1) = P1 (13 + i) from (a3 _ (by omega)).trans (O.2.1.2.2.2 i (by omega)).2.1]
        refine wf_iast (pc := 222) (j := (13 + i)) dX9_ordain_222 lk_158 (nI_add _ _) (by omega) ?_
        refine wp_iinc1 (pc := 223) (L' := [_, _]) dX9_ordain_223 rfl rfl rfl ?_
        refine wp_goto (pc := 226) 179 dX9_ordain_226 (by decide) ?_
        refine ih (i + 1) _ (by omega) (by omega) ((O.w (by simp)).w (by simp)) (fun j hj => (wI_na (by decide)).trans ((wI_na (by decide)).trans (a1 j hj))) (fun j hj => by rw [wI_na (by decide), wI_na (by decide), wI_na (by decide), wI_na (by decide)]; exact a2 j hj) (fun j hj => by rw [wI_na (by decide), wI_na (by decide), wI_na (by decide), wI_na (by decide)]; exact a3 j hj) (fun j hj => ?_)
        have hj5 := a5 j hj
        by_cases e1 : j = 13 + i
        · subst e1
          rw [wI_at, if_neg (by omega), if_neg (by omega), if_neg (by omega), if_pos (by omega), if_pos (by omega)]
        · rw [wI_nk e1]
          by_cases e2 : j = 8 + i
          · subst e2
            rw [wI_at, if_neg (by omega), if_neg (by omega), if_pos (by omega), if_pos (by omega)]
          · rw [wI_nk e2, hj5]
            by_cases c1 : j < 4
            · rw [if_pos c1, if_pos c1]
            rw [if_neg c1, if_neg c1]
            by_cases c2 : j < 8
            · rw [if_pos c2, if_pos c2]
            rw [if_neg c2, if_neg c2]
            by_cases c3 : j < 13
            · rw [if_pos c3, if_pos c3]
              by_cases c : j - 8 < i
              · rw [if_pos c, if_pos (by omega)]
              · rw [if_neg c, if_neg (by omega)]
            rw [if_neg c3, if_neg c3]
            by_cases c4 : j < 18
            · rw [if_pos c4, if_pos c4]
              by_cases c : j - 13 < i
              · rw [if_pos c, if_pos (by omega)]
              · rw [if_neg c, if_neg (by omega)]
            rw [if_neg c4, if_neg c4]
  have l5 : ∀ (l q1 : Nat) (Λ1 : Lw) (P1 : Pg) (M5 : Mm), rnS (0, l0, q, Λ, P) s.T s.n = some (1, l, q1, Λ1, P1) → OkF Λ1 P1 → XM M5 s → Fm M M5 → ∀ (n i : Nat) (M1 : Mm), n = lD Λ1 - i → i ≤ lD Λ1 → OE M5 Λ1 P1 M1 → (∀ j, j < 4 → M1.1 152 j = lRo Λ1 j) → (∀ j, j < 4 * lD Λ1 → M1.1 153 j = M1.1 156 j) → (∀ j, j < 3 * lM Λ1 → M1.1 154 j = M1.1 157 j) → (∀ j, j < 25 → M1.1 158 j = if j < i then P1 j else 0) → Wp E K mX9_ordain 6 (0, 0) 149 [some (.ref (K.1 + 150)), some (.int (nI i))] [] 168 M1 0 0 (zI E K (fun r M' => Fm M M' ∧ ((r = -3 ∧ XM M' s ∧ ∃ k, FLt (0, l0, q, Λ, P) s.T s.n k) ∨ ∃ l q1 Λ1 P1, rnS (0, l0, q, Λ, P) s.T s.n = some (1, l, q1, Λ1, P1) ∧ OkF Λ1 P1 ∧ r = nI (10 * lD Λ1 + lM Λ1) ∧ XM M' (ordS s (1, l, q1, Λ1, P1))))) := by
    intro l q1 Λ1 P1 M5 hs hF H F n
    have hD1 := hF.1.1
    have hM1 := hF.1.2.1
    induction n with
    | zero =>
      intro i M1 hn hi O a1 a2 a3 a5
      refine wp_iload_n (pc := 149) dX9_ordain_149 rfl ?_
      refine wp_aload_n (pc := 150) dX9_ordain_150 rfl ?_
      refine wf_getI (pc := 151) dX9_ordain_151 fl_X9_69 lk_150 ?_
      rw [O.2.2.1]
      refine wp_icmp_ge (pc := 154) 177 dX9_ordain_154 (by decide) (fun h154 => ?_) (fun h154 => ?_)
      · refine wp_ic (pc := 177) (x := nI 0) dX9_ordain_177 ic_0 ?_
        refine wp_istore_n (pc := 178) (L' := [_, _]) dX9_ordain_178 (Nat.le_of_ble_eq_true rfl) rfl rfl ?_
        refine l6 l q1 Λ1 P1 M5 hs hF H F (lM Λ1) 0 M1 (by omega) (by omega) O a1 a2 a3 (fun j hj => (a5 j hj).trans ?_)
        rw [show i = lD Λ1 by omega]
        by_cases c1 : j < 4
        · rw [if_pos c1]
        rw [if_neg c1, if_neg (by omega)]
        split
        · rfl
        split
        · rw [if_neg (by omega)]
        split
        · rw [if_neg (by omega)]
        rfl
      · exact absurd (nI_le (by omega) (by omega)) h154
    | succ n ih =>
      intro i M1 hn hi O a1 a2 a3 a5
      refine wp_iload_n (pc := 149) dX9_ordain_149 rfl ?_
      refine wp_aload_n (pc := 150) dX9_ordain_150 rfl ?_
      refine wf_getI (pc := 151) dX9_ordain_151 fl_X9_69 lk_150 ?_
      rw [O.2.2.1]
      refine wp_icmp_ge (pc := 154) 177 dX9_ordain_154 (by decide) (fun h154 => ?_) (fun h154 => ?_)
      · exact absurd h154 (nI_ge (by omega) (by omega))
      · refine wp_aload_n (pc := 157) dX9_ordain_157 rfl ?_
        refine wf_getR (pc := 158) dX9_ordain_158 fl_X9_35 lk_150 ((O.1.rs H.r) 150 16 158 rfl) ?_
        refine wp_iload_n (pc := 161) dX9_ordain_161 rfl ?_
        refine wp_aload_n (pc := 162) dX9_ordain_162 rfl ?_
        refine wf_getR (pc := 163) dX9_ordain_163 fl_X9_20 lk_150 ((O.1.rs H.r) 150 8 153 rfl) ?_
        refine wp_ic (pc := 166) (x := nI 4) dX9_ordain_166 ic_4 ?_
        refine wp_iload_n (pc := 167) dX9_ordain_167 rfl ?_
        refine wp_imul (pc := 168) dX9_ordain_168 ?_
        refine wf_iald (pc := 169) (j := (4 * i)) dX9_ordain_169 lk_153 (pk_mul _ _) (by omega) ?_
        rw [show M1.1 153 (4 * i) = P1 i from (a2 _ (by omega)).trans (O.2.1.2.2.1 i (by omega)).1]
        refine wf_iast (pc := 170) (j := i) dX9_ordain_170 lk_158 rfl (by omega) ?_
        refine wp_iinc1 (pc := 171) (L' := [_, _]) dX9_ordain_171 rfl rfl rfl ?_
        refine wp_goto (pc := 174) 149 dX9_ordain_174 (by decide) ?_
        refine ih (i + 1) _ (by omega) (by omega) (O.w (by simp)) (fun j hj => (wI_na (by decide)).trans (a1 j hj)) (fun j hj => by rw [wI_na (by decide), wI_na (by decide)]; exact a2 j hj) (fun j hj => by rw [wI_na (by decide), wI_na (by decide)]; exact a3 j hj) (fun j hj => ?_)
        by_cases e1 : j = i
        · subst e1; rw [wI_at, if_pos (by omega)]
        · rw [wI_nk e1, a5 j hj]
          by_cases c : j < i
          · rw [if_pos c, if_pos (by omega)]
          · rw [if_neg c, if_neg (by omega)]
  have l4 : ∀ (l q1 : Nat) (Λ1 : Lw) (P1 : Pg) (M5 : Mm), rnS (0, l0, q, Λ, P) s.T s.n = some (1, l, q1, Λ1, P1) → OkF Λ1 P1 → XM M5 s → Fm M M5 → ∀ (n i : Nat) (M1 : Mm), n = 25 - i → i ≤ 25 → OE M5 Λ1 P1 M1 → (∀ j, j < 4 → M1.1 152 j = lRo Λ1 j) → (∀ j, j < 4 * lD Λ1 → M1.1 153 j = M1.1 156 j) → (∀ j, j < 3 * lM Λ1 → M1.1 154 j = M1.1 157 j) → (∀ j, j < i → M1.1 158 j = 0) → Wp E K mX9_ordain 6 (0, 0) 128 [some (.ref (K.1 + 150)), some (.int (nI i))] [] 168 M1 0 0 (zI E K (fun r M' => Fm M M' ∧ ((r = -3 ∧ XM M' s ∧ ∃ k, FLt (0, l0, q, Λ, P) s.T s.n k) ∨ ∃ l q1 Λ1 P1, rnS (0, l0, q, Λ, P) s.T s.n = some (1, l, q1, Λ1, P1) ∧ OkF Λ1 P1 ∧ r = nI (10 * lD Λ1 + lM Λ1) ∧ XM M' (ordS s (1, l, q1, Λ1, P1))))) := by
    intro l q1 Λ1 P1 M5 hs hF H F n
    have hD1 := hF.1.1
    have hM1 := hF.1.2.1
    induction n with
    | zero =>
      intro i M1 hn hi O a1 a2 a3 a5
      refine wp_iload_n (pc := 128) dX9_ordain_128 rfl ?_
      refine wp_bipush (pc := 129) (x := nI 25) dX9_ordain_129 bp_25 ?_
      refine wp_icmp_ge (pc := 131) 147 dX9_ordain_131 (by decide) (fun h131 => ?_) (fun h131 => ?_)
      · refine wp_ic (pc := 147) (x := nI 0) dX9_ordain_147 ic_0 ?_
        refine wp_istore_n (pc := 148) (L' := [_, _]) dX9_ordain_148 (Nat.le_of_ble_eq_true rfl) rfl rfl ?_
        exact l5 l q1 Λ1 P1 M5 hs hF H F (lD Λ1) 0 M1 (by omega) (by omega) O a1 a2 a3 (fun j hj => (a5 j (by omega)).trans (if_neg (by omega)).symm)
      · exact absurd (nI_le (by omega) (by omega)) h131
    | succ n ih =>
      intro i M1 hn hi O a1 a2 a3 a5
      refine wp_iload_n (pc := 128) dX9_ordain_128 rfl ?_
      refine wp_bipush (pc := 129) (x := nI 25) dX9_ordain_129 bp_25 ?_
      refine wp_icmp_ge (pc := 131) 147 dX9_ordain_131 (by decide) (fun h131 => ?_) (fun h131 => ?_)
      · exact absurd h131 (nI_ge (by omega) (by omega))
      · refine wp_aload_n (pc := 134) dX9_ordain_134 rfl ?_
        refine wf_getR (pc := 135) dX9_ordain_135 fl_X9_35 lk_150 ((O.1.rs H.r) 150 16 158 rfl) ?_
        refine wp_iload_n (pc := 138) dX9_ordain_138 rfl ?_
        refine wp_ic (pc := 139) (x := nI 0) dX9_ordain_139 ic_0 ?_
        refine wf_iast (pc := 140) (j := i) dX9_ordain_140 lk_158 rfl (by omega) ?_
        refine wp_iinc1 (pc := 141) (L' := [_, _]) dX9_ordain_141 rfl rfl rfl ?_
        refine wp_goto (pc := 144) 128 dX9_ordain_144 (by decide) ?_
        refine ih (i + 1) _ (by omega) (by omega) (O.w (by simp)) (fun j hj => (wI_na (by decide)).trans (a1 j hj)) (fun j hj => by rw [wI_na (by decide), wI_na (by decide)]; exact a2 j hj) (fun j hj => by rw [wI_na (by decide), wI_na (by decide)]; exact a3 j hj) (fun j hj => ?_)
        by_cases e1 : j = i
        · subst e1; rw [wI_at]; rfl
        · rw [wI_nk e1]; exact a5 j (by omega)
  have l3 : ∀ (l q1 : Nat) (Λ1 : Lw) (P1 : Pg) (M5 : Mm), rnS (0, l0, q, Λ, P) s.T s.n = some (1, l, q1, Λ1, P1) → OkF Λ1 P1 → XM M5 s → Fm M M5 → ∀ (n i : Nat) (M1 : Mm), n = (3 * lM Λ1) - i → i ≤ (3 * lM Λ1) → OE M5 Λ1 P1 M1 → (∀ j, j < 4 → M1.1 152 j = lRo Λ1 j) → (∀ j, j < 4 * lD Λ1 → M1.1 153 j = M1.1 156 j) → (∀ j, j < i → M1.1 154 j = M1.1 157 j) → Wp E K mX9_ordain 6 (0, 0) 98 [some (.ref (K.1 + 150)), some (.int (nI i))] [] 168 M1 0 0 (zI E K (fun r M' => Fm M M' ∧ ((r = -3 ∧ XM M' s ∧ ∃ k, FLt (0, l0, q, Λ, P) s.T s.n k) ∨ ∃ l q1 Λ1 P1, rnS (0, l0, q, Λ, P) s.T s.n = some (1, l, q1, Λ1, P1) ∧ OkF Λ1 P1 ∧ r = nI (10 * lD Λ1 + lM Λ1) ∧ XM M' (ordS s (1, l, q1, Λ1, P1))))) := by
    intro l q1 Λ1 P1 M5 hs hF H F n
    have hD1 := hF.1.1
    have hM1 := hF.1.2.1
    induction n with
    | zero =>
      intro i M1 hn hi O a1 a2 a3
      refine wp_iload_n (pc := 98) dX9_ordain_98 rfl ?_
      refine wp_ic (pc := 99) (x := nI 3) dX9_ordain_99 ic_3 ?_
      refine wp_aload_n (pc := 100) dX9_ordain_100 rfl ?_
      refine wf_getI (pc := 101) dX9_ordain_101 fl_X9_76 lk_150 ?_
      rw [O.2.2.2.1]
      refine wp_imul (pc := 104) dX9_ordain_104 ?_
      refine wp_top (nI (3 * lM Λ1)) (pk_mul _ _) ?_
      refine wp_icmp_ge (pc := 105) 126 dX9_ordain_105 (by decide) (fun h105 => ?_) (fun h105 => ?_)
      · refine wp_ic (pc := 126) (x := nI 0) dX9_ordain_126 ic_0 ?_
        refine wp_istore_n (pc := 127) (L' := [_, _]) dX9_ordain_127 (Nat.le_of_ble_eq_true rfl) rfl rfl ?_
        exact l4 l q1 Λ1 P1 M5 hs hF H F 25 0 M1 (by omega) (by omega) O a1 a2 (fun j hj => a3 j (by omega)) (fun j hj => absurd hj (Nat.not_lt_zero _))
      · exact absurd (nI_le (by omega) (by omega)) h105
    | succ n ih =>
      intro i M1 hn hi O a1 a2 a3
      refine wp_iload_n (pc := 98) dX9_ordain_98 rfl ?_
      refine wp_ic (pc := 99) (x := nI 3) dX9_ordain_99 ic_3 ?_
      refine wp_aload_n (pc := 100) dX9_ordain_100 rfl ?_
      refine wf_getI (pc := 101) dX9_ordain_101 fl_X9_76 lk_150 ?_
      rw [O.2.2.2.1]
      refine wp_imul (pc := 104) dX9_ordain_104 ?_
      refine wp_top (nI (3 * lM Λ1)) (pk_mul _ _) ?_
      refine wp_icmp_ge (pc := 105) 126 dX9_ordain_105 (by decide) (fun h105 => ?_) (fun h105 => ?_)
      · exact absurd h105 (nI_ge (by omega) (by omega))
      · refine wp_aload_n (pc := 108) dX9_ordain_108 rfl ?_
        refine wf_getR (pc := 109) dX9_ordain_109 fl_X9_23 lk_150 ((O.1.rs H.r) 150 9 154 rfl) ?_
        refine wp_iload_n (pc := 112) dX9_ordain_112 rfl ?_
        refine wp_aload_n (pc := 113) dX9_ordain_113 rfl ?_
        refine wf_getR (pc := 114) dX9_ordain_114 fl_X9_32 lk_150 ((O.1.rs H.r) 150 15 157 rfl) ?_
        refine wp_iload_n (pc := 117) dX9_ordain_117 rfl ?_
        refine wf_iald (pc := 118) (j := i) dX9_ordain_118 lk_157 rfl (by omega) ?_
        refine wf_iast (pc := 119) (j := i) dX9_ordain_119 lk_154 rfl (by omega) ?_
        refine wp_iinc1 (pc := 120) (L' := [_, _]) dX9_ordain_120 rfl rfl rfl ?_
        refine wp_goto (pc := 123) 98 dX9_ordain_123 (by decide) ?_
        refine ih (i + 1) _ (by omega) (by omega) (O.w (by simp)) (fun j hj => (wI_na (by decide)).trans (a1 j hj)) (fun j hj => by rw [wI_na (by decide), wI_na (by decide)]; exact a2 j hj) (fun j hj => ?_)
        rw [wI_na (show 157 ≠ 154 by decide)]
        by_cases e1 : j = i
        · subst e1; rw [wI_at]
        · rw [wI_nk e1]; exact a3 j (by omega)
  have l2 : ∀ (l q1 : Nat) (Λ1 : Lw) (P1 : Pg) (M5 : Mm), rnS (0, l0, q, Λ, P) s.T s.n = some (1, l, q1, Λ1, P1) → OkF Λ1 P1 → XM M5 s → Fm M M5 → ∀ (n i : Nat) (M1 : Mm), n = (4 * lD Λ1) - i → i ≤ (4 * lD Λ1) → OE M5 Λ1 P1 M1 → (∀ j, j < 4 → M1.1 152 j = lRo Λ1 j) → (∀ j, j < i → M1.1 153 j = M1.1 156 j) → Wp E K mX9_ordain 6 (0, 0) 68 [some (.ref (K.1 + 150)), some (.int (nI i))] [] 168 M1 0 0 (zI E K (fun r M' => Fm M M' ∧ ((r = -3 ∧ XM M' s ∧ ∃ k, FLt (0, l0, q, Λ, P) s.T s.n k) ∨ ∃ l q1 Λ1 P1, rnS (0, l0, q, Λ, P) s.T s.n = some (1, l, q1, Λ1, P1) ∧ OkF Λ1 P1 ∧ r = nI (10 * lD Λ1 + lM Λ1) ∧ XM M' (ordS s (1, l, q1, Λ1, P1))))) := by
    intro l q1 Λ1 P1 M5 hs hF H F n
    have hD1 := hF.1.1
    have hM1 := hF.1.2.1
    induction n with
    | zero =>
      intro i M1 hn hi O a1 a2
      refine wp_iload_n (pc := 68) dX9_ordain_68 rfl ?_
      refine wp_ic (pc := 69) (x := nI 4) dX9_ordain_69 ic_4 ?_
      refine wp_aload_n (pc := 70) dX9_ordain_70 rfl ?_
      refine wf_getI (pc := 71) dX9_ordain_71 fl_X9_69 lk_150 ?_
      rw [O.2.2.1]
      refine wp_imul (pc := 74) dX9_ordain_74 ?_
      refine wp_top (nI (4 * lD Λ1)) (pk_mul _ _) ?_
      refine wp_icmp_ge (pc := 75) 96 dX9_ordain_75 (by decide) (fun h75 => ?_) (fun h75 => ?_)
      · refine wp_ic (pc := 96) (x := nI 0) dX9_ordain_96 ic_0 ?_
        refine wp_istore_n (pc := 97) (L' := [_, _]) dX9_ordain_97 (Nat.le_of_ble_eq_true rfl) rfl rfl ?_
        exact l3 l q1 Λ1 P1 M5 hs hF H F (3 * lM Λ1) 0 M1 (by omega) (by omega) O a1 (fun j hj => a2 j (by omega)) (fun j hj => absurd hj (Nat.not_lt_zero _))
      · exact absurd (nI_le (by omega) (by omega)) h75
    | succ n ih =>
      intro i M1 hn hi O a1 a2
      refine wp_iload_n (pc := 68) dX9_ordain_68 rfl ?_
      refine wp_ic (pc := 69) (x := nI 4) dX9_ordain_69 ic_4 ?_
      refine wp_aload_n (pc := 70) dX9_ordain_70 rfl ?_
      refine wf_getI (pc := 71) dX9_ordain_71 fl_X9_69 lk_150 ?_
      rw [O.2.2.1]
      refine wp_imul (pc := 74) dX9_ordain_74 ?_
      refine wp_top (nI (4 * lD Λ1)) (pk_mul _ _) ?_
      refine wp_icmp_ge (pc := 75) 96 dX9_ordain_75 (by decide) (fun h75 => ?_) (fun h75 => ?_)
      · exact absurd h75 (nI_ge (by omega) (by omega))
      · refine wp_aload_n (pc := 78) dX9_ordain_78 rfl ?_
        refine wf_getR (pc := 79) dX9_ordain_79 fl_X9_20 lk_150 ((O.1.rs H.r) 150 8 153 rfl) ?_
        refine wp_iload_n (pc := 82) dX9_ordain_82 rfl ?_
        refine wp_aload_n (pc := 83) dX9_ordain_83 rfl ?_
        refine wf_getR (pc := 84) dX9_ordain_84 fl_X9_29 lk_150 ((O.1.rs H.r) 150 14 156 rfl) ?_
        refine wp_iload_n (pc := 87) dX9_ordain_87 rfl ?_
        refine wf_iald (pc := 88) (j := i) dX9_ordain_88 lk_156 rfl (by omega) ?_
        refine wf_iast (pc := 89) (j := i) dX9_ordain_89 lk_153 rfl (by omega) ?_
        refine wp_iinc1 (pc := 90) (L' := [_, _]) dX9_ordain_90 rfl rfl rfl ?_
        refine wp_goto (pc := 93) 68 dX9_ordain_93 (by decide) ?_
        refine ih (i + 1) _ (by omega) (by omega) (O.w (by simp)) (fun j hj => (wI_na (by decide)).trans (a1 j hj)) (fun j hj => ?_)
        rw [wI_na (show 156 ≠ 153 by decide)]
        by_cases e1 : j = i
        · subst e1; rw [wI_at]
        · rw [wI_nk e1]; exact a2 j (by omega)
  have l1 : ∀ (l q1 : Nat) (Λ1 : Lw) (P1 : Pg) (M5 : Mm), rnS (0, l0, q, Λ, P) s.T s.n = some (1, l, q1, Λ1, P1) → OkF Λ1 P1 → XM M5 s → Fm M M5 → ∀ (n i : Nat) (M1 : Mm), n = 4 - i → i ≤ 4 → OE M5 Λ1 P1 M1 → (∀ j, j < i → M1.1 152 j = lRo Λ1 j) → Wp E K mX9_ordain 6 (0, 0) 43 [some (.ref (K.1 + 150)), some (.int (nI i))] [] 168 M1 0 0 (zI E K (fun r M' => Fm M M' ∧ ((r = -3 ∧ XM M' s ∧ ∃ k, FLt (0, l0, q, Λ, P) s.T s.n k) ∨ ∃ l q1 Λ1 P1, rnS (0, l0, q, Λ, P) s.T s.n = some (1, l, q1, Λ1, P1) ∧ OkF Λ1 P1 ∧ r = nI (10 * lD Λ1 + lM Λ1) ∧ XM M' (ordS s (1, l, q1, Λ1, P1))))) := by
    intro l q1 Λ1 P1 M5 hs hF H F n
    have hD1 := hF.1.1
    have hM1 := hF.1.2.1
    induction n with
    | zero =>
      intro i M1 hn hi O a1
      refine wp_iload_n (pc := 43) dX9_ordain_43 rfl ?_
      refine wp_ic (pc := 44) (x := nI 4) dX9_ordain_44 ic_4 ?_
      refine wp_icmp_ge (pc := 45) 66 dX9_ordain_45 (by decide) (fun h45 => ?_) (fun h45 => ?_)
      · refine wp_ic (pc := 66) (x := nI 0) dX9_ordain_66 ic_0 ?_
        refine wp_istore_n (pc := 67) (L' := [_, _]) dX9_ordain_67 (Nat.le_of_ble_eq_true rfl) rfl rfl ?_
        exact l2 l q1 Λ1 P1 M5 hs hF H F (4 * lD Λ1) 0 M1 (by omega) (by omega) O (fun j hj => a1 j (by omega)) (fun j hj => absurd hj (Nat.not_lt_zero _))
      · exact absurd (nI_le (by omega) (by omega)) h45
    | succ n ih =>
      intro i M1 hn hi O a1
      refine wp_iload_n (pc := 43) dX9_ordain_43 rfl ?_
      refine wp_ic (pc := 44) (x := nI 4) dX9_ordain_44 ic_4 ?_
      refine wp_icmp_ge (pc := 45) 66 dX9_ordain_45 (by decide) (fun h45 => ?_) (fun h45 => ?_)
      · exact absurd h45 (nI_ge (by omega) (by omega))
      · refine wp_aload_n (pc := 48) dX9_ordain_48 rfl ?_
        refine wf_getR (pc := 49) dX9_ordain_49 fl_X9_17 lk_150 ((O.1.rs H.r) 150 7 152 rfl) ?_
        refine wp_iload_n (pc := 52) dX9_ordain_52 rfl ?_
        refine wp_aload_n (pc := 53) dX9_ordain_53 rfl ?_
        refine wf_getR (pc := 54) dX9_ordain_54 fl_X9_26 lk_150 ((O.1.rs H.r) 150 13 155 rfl) ?_
        refine wp_iload_n (pc := 57) dX9_ordain_57 rfl ?_
        refine wf_iald (pc := 58) (j := i) dX9_ordain_58 lk_155 rfl (by omega) ?_
        rw [O.2.1.2.1 i (by omega)]
        refine wf_iast (pc := 59) (j := i) dX9_ordain_59 lk_152 rfl (by omega) ?_
        refine wp_iinc1 (pc := 60) (L' := [_, _]) dX9_ordain_60 rfl rfl rfl ?_
        refine wp_goto (pc := 63) 43 dX9_ordain_63 (by decide) ?_
        refine ih (i + 1) _ (by omega) (by omega) (O.w (by simp)) (fun j hj => ?_)
        by_cases e1 : j = i
        · subst e1; rw [wI_at]
        · rw [wI_nk e1]; exact a1 j (by omega)
  refine wp_aload_n (pc := 0) dX9_ordain_0 rfl ?_
  refine wp_ic (pc := 1) (x := nI 0) dX9_ordain_1 ic_0 ?_
  refine wf_putI (pc := 2) dX9_ordain_2 fl_X9_66 lk_150 ?_
  have F : Fm M (wI M 150 0 (nI 0)) := Fm.w (by decide)
  have H := H.f (k := 0) (nI 0) (by decide)
  generalize wI M 150 0 (nI 0) = M5 at H F ⊢
  refine wp_aload_n (pc := 5) dX9_ordain_5 rfl ?_
  refine wf_callVi (pc := 6) dX9_ordain_6 cl_X9_137 (c_readLaw (l0 := l0) (q := q) H.r H.t.1 H.t.2 V.t V.n hD hM z) lk_150 rfl rfl rfl rfl (Nat.le_of_ble_eq_true rfl) (by decide) ⟨Nat.le_refl _, Nat.le_refl _⟩ (fun r6 M6 q6 => ?_)
  refine wp_bipush (pc := 9) (x := (-9)) dX9_ordain_9 bp_m9 ?_
  refine wp_icmp_eq (pc := 11) 17 dX9_ordain_11 (by decide) (fun h11 => ?_) (fun h11 => ?_)
  · obtain ⟨sq, w⟩ := q6
    obtain ⟨l, q1, Λ1, P1, hs, hX, hF⟩ : ∃ l q1 Λ1 P1, rnS (0, l0, q, Λ, P) s.T s.n = some (1, l, q1, Λ1, P1) ∧ XQ M6 Λ1 P1 ∧ OkF Λ1 P1 := by
      rcases w with ⟨k, _, hk, w⟩ | ⟨_, w⟩
      · rw [h11] at w; exact absurd w.symm (nI_n9 (by omega))
      · exact w
    have H := H.sq sq
    have F := F.tr sq.fm
    obtain ⟨⟨x1, x2, x3⟩, hX2⟩ := hX
    have hX : XQ M6 Λ1 P1 := ⟨⟨x1, x2, x3⟩, hX2⟩
    refine wp_aload_n (pc := 17) dX9_ordain_17 rfl ?_
    refine wp_aload_n (pc := 18) dX9_ordain_18 rfl ?_
    refine wf_getI (pc := 19) dX9_ordain_19 fl_X9_100 lk_150 ?_
    rw [x1]
    refine wf_putI (pc := 22) dX9_ordain_22 fl_X9_69 lk_150 ?_
    refine wp_aload_n (pc := 25) dX9_ordain_25 rfl ?_
    refine wp_aload_n (pc := 26) dX9_ordain_26 rfl ?_
    refine wf_getI (pc := 27) dX9_ordain_27 fl_X9_103 lk_150 ?_
    rw [show (wI M6 150 4 (nI (lD Λ1))).1 150 11 = nI (lM Λ1) from x2]
    refine wf_putI (pc := 30) dX9_ordain_30 fl_X9_76 lk_150 ?_
    refine wp_aload_n (pc := 33) dX9_ordain_33 rfl ?_
    refine wp_aload_n (pc := 34) dX9_ordain_34 rfl ?_
    refine wf_getI (pc := 35) dX9_ordain_35 fl_X9_97 lk_150 ?_
    rw [show (wI (wI M6 150 4 (nI (lD Λ1))) 150 5 (nI (lM Λ1))).1 150 12 = lLe Λ1 from x3]
    refine wf_putI (pc := 38) dX9_ordain_38 fl_X9_13 lk_150 ?_
    refine wp_ic (pc := 41) (x := nI 0) dX9_ordain_41 ic_0 ?_
    refine wp_istore_n (pc := 42) (L' := [_, _]) dX9_ordain_42 (Nat.le_of_ble_eq_true rfl) rfl rfl ?_
    exact l1 l q1 Λ1 P1 M6 hs hF H F 4 0 _ (by omega) (by omega) ⟨((So.w (by omega) (fun _ => by omega)).tr (So.w (by omega) (fun _ => by omega))).tr (So.w (by omega) (fun _ => by omega)), hX.mv (fun k _ _ => by rw [wI_nk (by omega), wI_nk (by omega), wI_nk (by omega)]) (fun a _ _ k => by rw [wI_na (by omega), wI_na (by omega), wI_na (by omega)]), rfl, rfl, rfl⟩ (fun j hj => absurd hj (Nat.not_lt_zero _))
  · obtain ⟨sq, w⟩ := q6
    obtain ⟨k, hk⟩ : ∃ k, FLt (0, l0, q, Λ, P) s.T s.n k := by
      rcases w with ⟨k, w, _⟩ | ⟨w, _⟩
      · exact ⟨k, w⟩
      · exact absurd w h11
    refine wp_bipush (pc := 14) (x := (-3)) dX9_ordain_14 bp_m3 ?_
    refine wf_iret (pc := 16) dX9_ordain_16 rfl ?_
    exact ⟨F.tr sq.fm, Or.inl ⟨rfl, H.sq sq, k, hk⟩⟩
