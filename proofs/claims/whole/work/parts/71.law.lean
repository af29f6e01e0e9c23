/-! the law's own walk -/
theorem ws_at {E : EnvT} {K : CtxT} {Z : State → Prop} {b L : Nat} {xs : Nat → Int32} (hX : va_X b L xs (es E) (es E).heap) (hbl : b < (es E).heap.size) (hbK : b < K.1) (hL : L ≤ 2560) {L0 : List (Option Value)} {st : List Value} {nx k n d pc i : Nat} {f : Nat × Nat} {M : Mm} (hd : decode mL_law.2.1 pc = .ok (.iaload, 1)) (hi : i < L) (kk : Wp E K mL_law d f (pc + 1) L0 (.int (xs i) :: st) nx M k n Z) : Wp E K mL_law d f pc L0 (.int (nI i) :: .ref b :: st) nx M k n Z := by
  refine wp_sld hd hX hbl hbK (vp_in_nI hi (by omega)) ?_
  rw [nI_clamp (by omega)]
  exact kk
theorem lcmp_self (x : Int64) : lg_cmp x x = 0 := by
  unfold lg_cmp
  rw [if_neg (Int64.lt_irrefl), if_pos rfl]
theorem again_law (s : Sv) (x : Int32) : (oAgain s x).2.Λ = s.Λ := by
  unfold oAgain
  split
  · cases s.S x.toNatClampNeg <;> rfl
  · rfl
theorem law_write {E : EnvT} {K : CtxT} {Z : State → Prop} {b L : Nat} {xs : Nat → Int32} (hX : va_X b L xs (es E) (es E).heap) (hbl : b < (es E).heap.size) (hbK : b < K.1) (hL : L ≤ 2560) {i B : Nat} {s : Sv} {M : Mm} (h : ST B s M) (hB : B ≤ 9999) (hi : i + 5 ≤ L) (cont : ∀ s' M', ST (B + 1) s' M' → Wp E K mL_law 12 (600000, 7302250) 931 [some (.ref b), some (.ref (K.1 + 0)), some (.ref (K.1 + 150)), some (.int (nI i))] [] 168 M' 168 1456 Z) : Wp E K mL_law 12 (600000, 7302250) 160 [some (.ref b), some (.ref (K.1 + 0)), some (.ref (K.1 + 150)), some (.int (nI i))] [] 168 M 168 1456 Z := by
  refine wp_aload_n (pc := 160) dL_law_160 rfl ?_
  refine wp_aload_n (pc := 161) dL_law_161 rfl ?_
  refine wp_iload_n (pc := 162) dL_law_162 rfl ?_
  refine wp_ic (pc := 163) (x := nI 1) dL_law_163 ic_1 ?_
  refine wp_iadd (pc := 164) dL_law_164 ?_
  refine wp_top (nI (i + 1)) (nI_add _ _) ?_
  refine ws_at (pc := 165) hX hbl hbK hL dL_law_165 (show i + 1 < L by omega) ?_
  refine wf_callVi (pc := 166) dL_law_166 cl_L_13 (c_write h.1 h.2.2.1 hB) lk_0 rfl rfl rfl rfl (Nat.le_of_ble_eq_true rfl) (by decide) ⟨by decide, by decide⟩ (fun r0 M0 q0 => ?_)
  obtain ⟨a1, a2, a3⟩ := q0
  have hm := h.mid a2 a3
  refine wp_aload_n (pc := 169) dL_law_169 rfl ?_
  refine wp_aload_n (pc := 170) dL_law_170 rfl ?_
  refine wp_iload_n (pc := 171) dL_law_171 rfl ?_
  refine wp_ic (pc := 172) (x := nI 1) dL_law_172 ic_1 ?_
  refine wp_iadd (pc := 173) dL_law_173 ?_
  refine wp_top (nI (i + 1)) (nI_add _ _) ?_
  refine ws_at (pc := 174) hX hbl hbK hL dL_law_174 (show i + 1 < L by omega) ?_
  refine wf_callVi (pc := 175) dL_law_175 cl_L_17 (cm_write hm h.2.2.1 hB) lk_150 rfl rfl rfl rfl (Nat.le_of_ble_eq_true rfl) (by decide) ⟨by decide, by decide⟩ (fun r1 M1 q1 => ?_)
  obtain ⟨b1, b2, b3⟩ := q1
  refine wp_icmp_eq (pc := 178) 931 dL_law_178 (by decide) (fun h178 => ?_) (fun h178 => ?_)
  · exact cont _ _ (h.go a2 a3 b2 b3 ((OkV.write h.2.2.1 _).up (Nat.le_succ B)) (by unfold oWrite; repeat' (first | rfl | split)))
  · exact absurd (a1.trans b1.symm) h178
theorem law_wipe {E : EnvT} {K : CtxT} {Z : State → Prop} {b L : Nat} {xs : Nat → Int32} (hX : va_X b L xs (es E) (es E).heap) (hbl : b < (es E).heap.size) (hbK : b < K.1) (hL : L ≤ 2560) {i B : Nat} {s : Sv} {M : Mm} (h : ST B s M) (hB : B ≤ 9999) (hi : i + 5 ≤ L) (cont : ∀ s' M', ST (B + 1) s' M' → Wp E K mL_law 12 (600000, 7302250) 931 [some (.ref b), some (.ref (K.1 + 0)), some (.ref (K.1 + 150)), some (.int (nI i))] [] 168 M' 168 1456 Z) : Wp E K mL_law 12 (600000, 7302250) 183 [some (.ref b), some (.ref (K.1 + 0)), some (.ref (K.1 + 150)), some (.int (nI i))] [] 168 M 168 1456 Z := by
  refine wp_aload_n (pc := 183) dL_law_183 rfl ?_
  refine wf_callVi (pc := 184) dL_law_184 cl_L_18 (c_wipe h.1 h.2.2.1 hB) lk_0 rfl rfl rfl rfl (Nat.le_of_ble_eq_true rfl) (by decide) ⟨by decide, by decide⟩ (fun r0 M0 q0 => ?_)
  obtain ⟨a1, a2, a3⟩ := q0
  have hm := h.mid a2 a3
  refine wp_aload_n (pc := 187) dL_law_187 rfl ?_
  refine wf_callVi (pc := 188) dL_law_188 cl_L_22 (cm_wipe hm h.2.2.1 hB) lk_150 rfl rfl rfl rfl (Nat.le_of_ble_eq_true rfl) (by decide) ⟨by decide, by decide⟩ (fun r1 M1 q1 => ?_)
  obtain ⟨b1, b2, b3⟩ := q1
  refine wp_icmp_eq (pc := 191) 931 dL_law_191 (by decide) (fun h191 => ?_) (fun h191 => ?_)
  · exact cont _ _ (h.go a2 a3 b2 b3 ((OkV.wipe h.2.2.1).up (Nat.le_succ B)) rfl)
  · exact absurd (a1.trans b1.symm) h191
theorem law_fault {E : EnvT} {K : CtxT} {Z : State → Prop} {b L : Nat} {xs : Nat → Int32} (hX : va_X b L xs (es E) (es E).heap) (hbl : b < (es E).heap.size) (hbK : b < K.1) (hL : L ≤ 2560) {i B : Nat} {s : Sv} {M : Mm} (h : ST B s M) (hB : B ≤ 9999) (hi : i + 5 ≤ L) (cont : ∀ s' M', ST (B + 1) s' M' → Wp E K mL_law 12 (600000, 7302250) 931 [some (.ref b), some (.ref (K.1 + 0)), some (.ref (K.1 + 150)), some (.int (nI i))] [] 168 M' 168 1456 Z) : Wp E K mL_law 12 (600000, 7302250) 196 [some (.ref b), some (.ref (K.1 + 0)), some (.ref (K.1 + 150)), some (.int (nI i))] [] 168 M 168 1456 Z := by
  refine wp_aload_n (pc := 196) dL_law_196 rfl ?_
  refine wf_callVi (pc := 197) dL_law_197 cl_L_23 (c_fault h.1 h.2.2.1 hB) lk_0 rfl rfl rfl rfl (Nat.le_of_ble_eq_true rfl) (by decide) ⟨by decide, by decide⟩ (fun r0 M0 q0 => ?_)
  obtain ⟨⟨σ0, s0, a1⟩, a2, a3⟩ := q0
  obtain ⟨g1, g2, g3, g4⟩ := st0_of s0 h.2.2.2.2
  have a1 := rd_fq a1
  rw [g1] at a1
  have hm := h.mid a2 a3
  refine wp_aload_n (pc := 200) dL_law_200 rfl ?_
  refine wf_callVi (pc := 201) dL_law_201 cl_L_26 (cm_fault (l0 := σ0.2.1) (q := σ0.2.2.1) hm h.2.2.1 hB g2 g3 g4) lk_150 rfl rfl rfl rfl (Nat.le_of_ble_eq_true rfl) (by decide) ⟨by decide, by decide⟩ (fun r1 M1 q1 => ?_)
  obtain ⟨b1, b2, b3⟩ := q1
  refine wp_icmp_eq (pc := 204) 931 dL_law_204 (by decide) (fun h204 => ?_) (fun h204 => ?_)
  · exact cont _ _ (h.go a2 a3 b2 b3 (h.2.2.1.up (Nat.le_succ B)) rfl)
  · exact absurd (Fq.uq a1 b1) h204
theorem law_ordain {E : EnvT} {K : CtxT} {Z : State → Prop} {b L : Nat} {xs : Nat → Int32} (hX : va_X b L xs (es E) (es E).heap) (hbl : b < (es E).heap.size) (hbK : b < K.1) (hL : L ≤ 2560) {i B : Nat} {s : Sv} {M : Mm} (h : ST B s M) (hB : B ≤ 9999) (hi : i + 5 ≤ L) (cont : ∀ s' M', ST (B + 1) s' M' → Wp E K mL_law 12 (600000, 7302250) 931 [some (.ref b), some (.ref (K.1 + 0)), some (.ref (K.1 + 150)), some (.int (nI i))] [] 168 M' 168 1456 Z) : Wp E K mL_law 12 (600000, 7302250) 209 [some (.ref b), some (.ref (K.1 + 0)), some (.ref (K.1 + 150)), some (.int (nI i))] [] 168 M 168 1456 Z := by
  refine wp_aload_n (pc := 209) dL_law_209 rfl ?_
  refine wf_callVi (pc := 210) dL_law_210 cl_L_27 (c_ordain h.1 h.2.2.1 hB) lk_0 rfl rfl rfl rfl (Nat.le_of_ble_eq_true rfl) (by decide) ⟨by decide, by decide⟩ (fun r0 M0 q0 => ?_)
  obtain ⟨a3, rr, M9, ⟨σ9, s9, w9⟩, w⟩ := q0
  have hR1 : RS M0 := by
    rcases w with ⟨_, _, w⟩ | ⟨_, _, _, _, _, _, _, _, w⟩ <;> exact w.r
  have hm : XM M0 s := h.2.1.fr hR1 a3
  rcases w with ⟨w1, w2, w3⟩ | ⟨σ0, σ, s0, w2, w3, w4, w5, w6, w7⟩
  · obtain ⟨g1, g2, g3, g4⟩ := st0_of s9 h.2.2.2.2
    have f1 := rd_fq w9
    rw [g1] at f1
    refine wp_aload_n (pc := 213) dL_law_213 rfl ?_
    refine wf_callVi (pc := 214) dL_law_214 cl_L_30 (cm_ordain (l0 := σ9.2.1) (q := σ9.2.2.1) hm h.2.2.1 hB g2 g3 g4) lk_150 rfl rfl rfl rfl (Nat.le_of_ble_eq_true rfl) (by decide) ⟨by decide, by decide⟩ (fun r1 M1 q1 => ?_)
    obtain ⟨b3, w⟩ := q1
    have hb : r1 = -3 ∧ XM M1 s := by
      rcases w with ⟨y1, y2, _⟩ | ⟨l, q1', Λ1, P1, y1, _⟩
      · exact ⟨y1, y2⟩
      · rcases f1 with ⟨k, y2, _⟩ | ⟨y2, _⟩
        · exact (fl_some y2 y1 rfl).elim
        · exact absurd y2 w1
    refine wp_icmp_eq (pc := 217) 931 dL_law_217 (by decide) (fun h217 => ?_) (fun h217 => ?_)
    · exact cont _ _ ⟨w3.fm b3, hb.2, (h.2.2.1.up (Nat.le_succ B)), h.2.2.2.1, (h.2.2.2.2.fr a3).fm b3⟩
    · exact absurd (w2.trans hb.1.symm) h217
  · obtain ⟨g1, g2, g3, g4⟩ := st0_of s0 h.2.2.2.2
    rw [g1] at w2
    refine wp_aload_n (pc := 213) dL_law_213 rfl ?_
    refine wf_callVi (pc := 214) dL_law_214 cl_L_30 (cm_ordain (l0 := σ0.2.1) (q := σ0.2.2.1) hm h.2.2.1 hB g2 g3 g4) lk_150 rfl rfl rfl rfl (Nat.le_of_ble_eq_true rfl) (by decide) ⟨by decide, by decide⟩ (fun r1 M1 q1 => ?_)
    obtain ⟨b3, w⟩ := q1
    have hb : r1 = nI (10 * lD σ.2.2.2.1 + lM σ.2.2.2.1) ∧ XM M1 (ordS s σ) ∧ OkF σ.2.2.2.1 σ.2.2.2.2 := by
      rcases w with ⟨_, _, k, y3⟩ | ⟨l, q1', Λ1, P1, y1, y2, y3, y4⟩
      · exact (fl_some y3 w2 w3).elim
      · have e := Option.some.inj (w2.symm.trans y1)
        subst e
        exact ⟨y3, y4, y2⟩
    refine wp_icmp_eq (pc := 217) 931 dL_law_217 (by decide) (fun h217 => ?_) (fun h217 => ?_)
    · exact cont _ _ ⟨w7.fm b3, hb.2.1, h.2.2.1.ord hb.2.2, hb.2.2.2.1, (h.2.2.2.2.fr a3).fm b3⟩
    · exact absurd (w6.trans hb.1.symm) h217
theorem law_about {E : EnvT} {K : CtxT} {Z : State → Prop} {b L : Nat} {xs : Nat → Int32} (hX : va_X b L xs (es E) (es E).heap) (hbl : b < (es E).heap.size) (hbK : b < K.1) (hL : L ≤ 2560) {i B : Nat} {s : Sv} {M : Mm} (h : ST B s M) (hB : B ≤ 9999) (hi : i + 5 ≤ L) (cont : ∀ s' M', ST (B + 1) s' M' → Wp E K mL_law 12 (600000, 7302250) 931 [some (.ref b), some (.ref (K.1 + 0)), some (.ref (K.1 + 150)), some (.int (nI i))] [] 168 M' 168 1456 Z) : Wp E K mL_law 12 (600000, 7302250) 222 [some (.ref b), some (.ref (K.1 + 0)), some (.ref (K.1 + 150)), some (.int (nI i))] [] 168 M 168 1456 Z := by
  refine wp_aload_n (pc := 222) dL_law_222 rfl ?_
  refine wp_aload_n (pc := 223) dL_law_223 rfl ?_
  refine wp_iload_n (pc := 224) dL_law_224 rfl ?_
  refine wp_ic (pc := 225) (x := nI 1) dL_law_225 ic_1 ?_
  refine wp_iadd (pc := 226) dL_law_226 ?_
  refine wp_top (nI (i + 1)) (nI_add _ _) ?_
  refine ws_at (pc := 227) hX hbl hbK hL dL_law_227 (show i + 1 < L by omega) ?_
  refine wf_callVi (pc := 228) dL_law_228 cl_L_31 (c_about h.1 h.2.2.1 hB) lk_0 rfl rfl rfl rfl (Nat.le_of_ble_eq_true rfl) (by decide) ⟨by decide, by decide⟩ (fun r0 M0 q0 => ?_)
  obtain ⟨a1, a2, a3⟩ := q0
  have hm := h.mid a2 a3
  refine wp_aload_n (pc := 231) dL_law_231 rfl ?_
  refine wp_aload_n (pc := 232) dL_law_232 rfl ?_
  refine wp_iload_n (pc := 233) dL_law_233 rfl ?_
  refine wp_ic (pc := 234) (x := nI 1) dL_law_234 ic_1 ?_
  refine wp_iadd (pc := 235) dL_law_235 ?_
  refine wp_top (nI (i + 1)) (nI_add _ _) ?_
  refine ws_at (pc := 236) hX hbl hbK hL dL_law_236 (show i + 1 < L by omega) ?_
  refine wf_callVi (pc := 237) dL_law_237 cl_L_34 (cm_about hm h.2.2.1 hB) lk_150 rfl rfl rfl rfl (Nat.le_of_ble_eq_true rfl) (by decide) ⟨by decide, by decide⟩ (fun r1 M1 q1 => ?_)
  obtain ⟨b1, b2, b3⟩ := q1
  refine wp_icmp_eq (pc := 240) 931 dL_law_240 (by decide) (fun h240 => ?_) (fun h240 => ?_)
  · exact cont _ _ (h.go a2 a3 b2 b3 (h.2.2.1.up (Nat.le_succ B)) rfl)
  · exact absurd (a1.trans b1.symm) h240
theorem law_dog {E : EnvT} {K : CtxT} {Z : State → Prop} {b L : Nat} {xs : Nat → Int32} (hX : va_X b L xs (es E) (es E).heap) (hbl : b < (es E).heap.size) (hbK : b < K.1) (hL : L ≤ 2560) {i B : Nat} {s : Sv} {M : Mm} (h : ST B s M) (hB : B ≤ 9999) (hi : i + 5 ≤ L) (cont : ∀ s' M', ST (B + 1) s' M' → Wp E K mL_law 12 (600000, 7302250) 931 [some (.ref b), some (.ref (K.1 + 0)), some (.ref (K.1 + 150)), some (.int (nI i))] [] 168 M' 168 1456 Z) : Wp E K mL_law 12 (600000, 7302250) 245 [some (.ref b), some (.ref (K.1 + 0)), some (.ref (K.1 + 150)), some (.int (nI i))] [] 168 M 168 1456 Z := by
  refine wp_aload_n (pc := 245) dL_law_245 rfl ?_
  refine wp_aload_n (pc := 246) dL_law_246 rfl ?_
  refine wp_iload_n (pc := 247) dL_law_247 rfl ?_
  refine wp_ic (pc := 248) (x := nI 1) dL_law_248 ic_1 ?_
  refine wp_iadd (pc := 249) dL_law_249 ?_
  refine wp_top (nI (i + 1)) (nI_add _ _) ?_
  refine ws_at (pc := 250) hX hbl hbK hL dL_law_250 (show i + 1 < L by omega) ?_
  refine wp_aload_n (pc := 251) dL_law_251 rfl ?_
  refine wp_iload_n (pc := 252) dL_law_252 rfl ?_
  refine wp_ic (pc := 253) (x := nI 2) dL_law_253 ic_2 ?_
  refine wp_iadd (pc := 254) dL_law_254 ?_
  refine wp_top (nI (i + 2)) (nI_add _ _) ?_
  refine ws_at (pc := 255) hX hbl hbK hL dL_law_255 (show i + 2 < L by omega) ?_
  refine wf_callVi (pc := 256) dL_law_256 cl_L_35 (c_dog h.1 h.2.2.1 hB) lk_0 rfl rfl rfl rfl (Nat.le_of_ble_eq_true rfl) (by decide) ⟨by decide, by decide⟩ (fun r0 M0 q0 => ?_)
  obtain ⟨a1, a2, a3⟩ := q0
  have hm := h.mid a2 a3
  refine wp_aload_n (pc := 259) dL_law_259 rfl ?_
  refine wp_aload_n (pc := 260) dL_law_260 rfl ?_
  refine wp_iload_n (pc := 261) dL_law_261 rfl ?_
  refine wp_ic (pc := 262) (x := nI 1) dL_law_262 ic_1 ?_
  refine wp_iadd (pc := 263) dL_law_263 ?_
  refine wp_top (nI (i + 1)) (nI_add _ _) ?_
  refine ws_at (pc := 264) hX hbl hbK hL dL_law_264 (show i + 1 < L by omega) ?_
  refine wp_aload_n (pc := 265) dL_law_265 rfl ?_
  refine wp_iload_n (pc := 266) dL_law_266 rfl ?_
  refine wp_ic (pc := 267) (x := nI 2) dL_law_267 ic_2 ?_
  refine wp_iadd (pc := 268) dL_law_268 ?_
  refine wp_top (nI (i + 2)) (nI_add _ _) ?_
  refine ws_at (pc := 269) hX hbl hbK hL dL_law_269 (show i + 2 < L by omega) ?_
  refine wf_callVi (pc := 270) dL_law_270 cl_L_39 (cm_dog hm h.2.2.1 hB) lk_150 rfl rfl rfl rfl (Nat.le_of_ble_eq_true rfl) (by decide) ⟨by decide, by decide⟩ (fun r1 M1 q1 => ?_)
  obtain ⟨b1, b2, b3⟩ := q1
  refine wp_icmp_eq (pc := 273) 931 dL_law_273 (by decide) (fun h273 => ?_) (fun h273 => ?_)
  · exact cont _ _ (h.go a2 a3 b2 b3 (h.2.2.1.up (Nat.le_succ B)) rfl)
  · exact absurd (a1.trans b1.symm) h273
theorem law_man {E : EnvT} {K : CtxT} {Z : State → Prop} {b L : Nat} {xs : Nat → Int32} (hX : va_X b L xs (es E) (es E).heap) (hbl : b < (es E).heap.size) (hbK : b < K.1) (hL : L ≤ 2560) {i B : Nat} {s : Sv} {M : Mm} (h : ST B s M) (hB : B ≤ 9999) (hi : i + 5 ≤ L) (cont : ∀ s' M', ST (B + 1) s' M' → Wp E K mL_law 12 (600000, 7302250) 931 [some (.ref b), some (.ref (K.1 + 0)), some (.ref (K.1 + 150)), some (.int (nI i))] [] 168 M' 168 1456 Z) : Wp E K mL_law 12 (600000, 7302250) 278 [some (.ref b), some (.ref (K.1 + 0)), some (.ref (K.1 + 150)), some (.int (nI i))] [] 168 M 168 1456 Z := by
  refine wp_aload_n (pc := 278) dL_law_278 rfl ?_
  refine wp_aload_n (pc := 279) dL_law_279 rfl ?_
  refine wp_iload_n (pc := 280) dL_law_280 rfl ?_
  refine wp_ic (pc := 281) (x := nI 1) dL_law_281 ic_1 ?_
  refine wp_iadd (pc := 282) dL_law_282 ?_
  refine wp_top (nI (i + 1)) (nI_add _ _) ?_
  refine ws_at (pc := 283) hX hbl hbK hL dL_law_283 (show i + 1 < L by omega) ?_
  refine wp_aload_n (pc := 284) dL_law_284 rfl ?_
  refine wp_iload_n (pc := 285) dL_law_285 rfl ?_
  refine wp_ic (pc := 286) (x := nI 2) dL_law_286 ic_2 ?_
  refine wp_iadd (pc := 287) dL_law_287 ?_
  refine wp_top (nI (i + 2)) (nI_add _ _) ?_
  refine ws_at (pc := 288) hX hbl hbK hL dL_law_288 (show i + 2 < L by omega) ?_
  refine wf_callVi (pc := 289) dL_law_289 cl_L_40 (c_man h.1 h.2.2.1 hB) lk_0 rfl rfl rfl rfl (Nat.le_of_ble_eq_true rfl) (by decide) ⟨by decide, by decide⟩ (fun r0 M0 q0 => ?_)
  obtain ⟨a1, a2, a3⟩ := q0
  have hm := h.mid a2 a3
  refine wp_aload_n (pc := 292) dL_law_292 rfl ?_
  refine wp_aload_n (pc := 293) dL_law_293 rfl ?_
  refine wp_iload_n (pc := 294) dL_law_294 rfl ?_
  refine wp_ic (pc := 295) (x := nI 1) dL_law_295 ic_1 ?_
  refine wp_iadd (pc := 296) dL_law_296 ?_
  refine wp_top (nI (i + 1)) (nI_add _ _) ?_
  refine ws_at (pc := 297) hX hbl hbK hL dL_law_297 (show i + 1 < L by omega) ?_
  refine wp_aload_n (pc := 298) dL_law_298 rfl ?_
  refine wp_iload_n (pc := 299) dL_law_299 rfl ?_
  refine wp_ic (pc := 300) (x := nI 2) dL_law_300 ic_2 ?_
  refine wp_iadd (pc := 301) dL_law_301 ?_
  refine wp_top (nI (i + 2)) (nI_add _ _) ?_
  refine ws_at (pc := 302) hX hbl hbK hL dL_law_302 (show i + 2 < L by omega) ?_
  refine wf_callVi (pc := 303) dL_law_303 cl_L_43 (cm_man hm h.2.2.1 hB) lk_150 rfl rfl rfl rfl (Nat.le_of_ble_eq_true rfl) (by decide) ⟨by decide, by decide⟩ (fun r1 M1 q1 => ?_)
  obtain ⟨b1, b2, b3⟩ := q1
  refine wp_icmp_eq (pc := 306) 931 dL_law_306 (by decide) (fun h306 => ?_) (fun h306 => ?_)
  · exact cont _ _ (h.go a2 a3 b2 b3 (h.2.2.1.up (Nat.le_succ B)) rfl)
  · exact absurd (a1.trans b1.symm) h306
theorem law_lead {E : EnvT} {K : CtxT} {Z : State → Prop} {b L : Nat} {xs : Nat → Int32} (hX : va_X b L xs (es E) (es E).heap) (hbl : b < (es E).heap.size) (hbK : b < K.1) (hL : L ≤ 2560) {i B : Nat} {s : Sv} {M : Mm} (h : ST B s M) (hB : B ≤ 9999) (hi : i + 5 ≤ L) (cont : ∀ s' M', ST (B + 1) s' M' → Wp E K mL_law 12 (600000, 7302250) 931 [some (.ref b), some (.ref (K.1 + 0)), some (.ref (K.1 + 150)), some (.int (nI i))] [] 168 M' 168 1456 Z) : Wp E K mL_law 12 (600000, 7302250) 311 [some (.ref b), some (.ref (K.1 + 0)), some (.ref (K.1 + 150)), some (.int (nI i))] [] 168 M 168 1456 Z := by
  refine wp_aload_n (pc := 311) dL_law_311 rfl ?_
  refine wp_aload_n (pc := 312) dL_law_312 rfl ?_
  refine wp_iload_n (pc := 313) dL_law_313 rfl ?_
  refine wp_ic (pc := 314) (x := nI 1) dL_law_314 ic_1 ?_
  refine wp_iadd (pc := 315) dL_law_315 ?_
  refine wp_top (nI (i + 1)) (nI_add _ _) ?_
  refine ws_at (pc := 316) hX hbl hbK hL dL_law_316 (show i + 1 < L by omega) ?_
  refine wp_aload_n (pc := 317) dL_law_317 rfl ?_
  refine wp_iload_n (pc := 318) dL_law_318 rfl ?_
  refine wp_ic (pc := 319) (x := nI 2) dL_law_319 ic_2 ?_
  refine wp_iadd (pc := 320) dL_law_320 ?_
  refine wp_top (nI (i + 2)) (nI_add _ _) ?_
  refine ws_at (pc := 321) hX hbl hbK hL dL_law_321 (show i + 2 < L by omega) ?_
  refine wf_callVi (pc := 322) dL_law_322 cl_L_44 (c_lead h.1 h.2.2.1 hB) lk_0 rfl rfl rfl rfl (Nat.le_of_ble_eq_true rfl) (by decide) ⟨by decide, by decide⟩ (fun r0 M0 q0 => ?_)
  obtain ⟨a1, a2, a3⟩ := q0
  have hm := h.mid a2 a3
  refine wp_aload_n (pc := 325) dL_law_325 rfl ?_
  refine wp_aload_n (pc := 326) dL_law_326 rfl ?_
  refine wp_iload_n (pc := 327) dL_law_327 rfl ?_
  refine wp_ic (pc := 328) (x := nI 1) dL_law_328 ic_1 ?_
  refine wp_iadd (pc := 329) dL_law_329 ?_
  refine wp_top (nI (i + 1)) (nI_add _ _) ?_
  refine ws_at (pc := 330) hX hbl hbK hL dL_law_330 (show i + 1 < L by omega) ?_
  refine wp_aload_n (pc := 331) dL_law_331 rfl ?_
  refine wp_iload_n (pc := 332) dL_law_332 rfl ?_
  refine wp_ic (pc := 333) (x := nI 2) dL_law_333 ic_2 ?_
  refine wp_iadd (pc := 334) dL_law_334 ?_
  refine wp_top (nI (i + 2)) (nI_add _ _) ?_
  refine ws_at (pc := 335) hX hbl hbK hL dL_law_335 (show i + 2 < L by omega) ?_
  refine wf_callVi (pc := 336) dL_law_336 cl_L_47 (cm_lead hm h.2.2.1 hB) lk_150 rfl rfl rfl rfl (Nat.le_of_ble_eq_true rfl) (by decide) ⟨by decide, by decide⟩ (fun r1 M1 q1 => ?_)
  obtain ⟨b1, b2, b3⟩ := q1
  refine wp_icmp_eq (pc := 339) 931 dL_law_339 (by decide) (fun h339 => ?_) (fun h339 => ?_)
  · exact cont _ _ (h.go a2 a3 b2 b3 ((OkV.lead h.2.2.1 _ _).up (Nat.le_succ B)) (by unfold oLead sLead; repeat' (first | rfl | split)))
  · exact absurd (a1.trans b1.symm) h339
theorem law_leash {E : EnvT} {K : CtxT} {Z : State → Prop} {b L : Nat} {xs : Nat → Int32} (hX : va_X b L xs (es E) (es E).heap) (hbl : b < (es E).heap.size) (hbK : b < K.1) (hL : L ≤ 2560) {i B : Nat} {s : Sv} {M : Mm} (h : ST B s M) (hB : B ≤ 9999) (hi : i + 5 ≤ L) (cont : ∀ s' M', ST (B + 1) s' M' → Wp E K mL_law 12 (600000, 7302250) 931 [some (.ref b), some (.ref (K.1 + 0)), some (.ref (K.1 + 150)), some (.int (nI i))] [] 168 M' 168 1456 Z) : Wp E K mL_law 12 (600000, 7302250) 344 [some (.ref b), some (.ref (K.1 + 0)), some (.ref (K.1 + 150)), some (.int (nI i))] [] 168 M 168 1456 Z := by
  refine wp_aload_n (pc := 344) dL_law_344 rfl ?_
  refine wp_aload_n (pc := 345) dL_law_345 rfl ?_
  refine wp_iload_n (pc := 346) dL_law_346 rfl ?_
  refine wp_ic (pc := 347) (x := nI 1) dL_law_347 ic_1 ?_
  refine wp_iadd (pc := 348) dL_law_348 ?_
  refine wp_top (nI (i + 1)) (nI_add _ _) ?_
  refine ws_at (pc := 349) hX hbl hbK hL dL_law_349 (show i + 1 < L by omega) ?_
  refine wf_callVi (pc := 350) dL_law_350 cl_L_48 (c_leash h.1 h.2.2.1 hB) lk_0 rfl rfl rfl rfl (Nat.le_of_ble_eq_true rfl) (by decide) ⟨by decide, by decide⟩ (fun r0 M0 q0 => ?_)
  obtain ⟨a1, a2, a3⟩ := q0
  have hm := h.mid a2 a3
  refine wp_aload_n (pc := 353) dL_law_353 rfl ?_
  refine wp_aload_n (pc := 354) dL_law_354 rfl ?_
  refine wp_iload_n (pc := 355) dL_law_355 rfl ?_
  refine wp_ic (pc := 356) (x := nI 1) dL_law_356 ic_1 ?_
  refine wp_iadd (pc := 357) dL_law_357 ?_
  refine wp_top (nI (i + 1)) (nI_add _ _) ?_
  refine ws_at (pc := 358) hX hbl hbK hL dL_law_358 (show i + 1 < L by omega) ?_
  refine wf_callVi (pc := 359) dL_law_359 cl_L_51 (cm_leash hm h.2.2.1 hB) lk_150 rfl rfl rfl rfl (Nat.le_of_ble_eq_true rfl) (by decide) ⟨by decide, by decide⟩ (fun r1 M1 q1 => ?_)
  obtain ⟨b1, b2, b3⟩ := q1
  refine wp_icmp_eq (pc := 362) 931 dL_law_362 (by decide) (fun h362 => ?_) (fun h362 => ?_)
  · exact cont _ _ (h.go a2 a3 b2 b3 ((OkV.leash h.2.2.1 _).up (Nat.le_succ B)) (by unfold oLeash oLeashN sLeash; repeat' (first | rfl | split)))
  · exact absurd (a1.trans b1.symm) h362
theorem law_give {E : EnvT} {K : CtxT} {Z : State → Prop} {b L : Nat} {xs : Nat → Int32} (hX : va_X b L xs (es E) (es E).heap) (hbl : b < (es E).heap.size) (hbK : b < K.1) (hL : L ≤ 2560) {i B : Nat} {s : Sv} {M : Mm} (h : ST B s M) (hB : B ≤ 9999) (hi : i + 5 ≤ L) (cont : ∀ s' M', ST (B + 1) s' M' → Wp E K mL_law 12 (600000, 7302250) 931 [some (.ref b), some (.ref (K.1 + 0)), some (.ref (K.1 + 150)), some (.int (nI i))] [] 168 M' 168 1456 Z) : Wp E K mL_law 12 (600000, 7302250) 367 [some (.ref b), some (.ref (K.1 + 0)), some (.ref (K.1 + 150)), some (.int (nI i))] [] 168 M 168 1456 Z := by
  refine wp_aload_n (pc := 367) dL_law_367 rfl ?_
  refine wp_aload_n (pc := 368) dL_law_368 rfl ?_
  refine wp_iload_n (pc := 369) dL_law_369 rfl ?_
  refine wp_ic (pc := 370) (x := nI 1) dL_law_370 ic_1 ?_
  refine wp_iadd (pc := 371) dL_law_371 ?_
  refine wp_top (nI (i + 1)) (nI_add _ _) ?_
  refine ws_at (pc := 372) hX hbl hbK hL dL_law_372 (show i + 1 < L by omega) ?_
  refine wp_aload_n (pc := 373) dL_law_373 rfl ?_
  refine wp_iload_n (pc := 374) dL_law_374 rfl ?_
  refine wp_ic (pc := 375) (x := nI 2) dL_law_375 ic_2 ?_
  refine wp_iadd (pc := 376) dL_law_376 ?_
  refine wp_top (nI (i + 2)) (nI_add _ _) ?_
  refine ws_at (pc := 377) hX hbl hbK hL dL_law_377 (show i + 2 < L by omega) ?_
  refine wf_callVi (pc := 378) dL_law_378 cl_L_52 (c_give h.1 h.2.2.1 hB) lk_0 rfl rfl rfl rfl (Nat.le_of_ble_eq_true rfl) (by decide) ⟨by decide, by decide⟩ (fun r0 M0 q0 => ?_)
  obtain ⟨a1, a2, a3⟩ := q0
  have hm := h.mid a2 a3
  refine wp_aload_n (pc := 381) dL_law_381 rfl ?_
  refine wp_aload_n (pc := 382) dL_law_382 rfl ?_
  refine wp_iload_n (pc := 383) dL_law_383 rfl ?_
  refine wp_ic (pc := 384) (x := nI 1) dL_law_384 ic_1 ?_
  refine wp_iadd (pc := 385) dL_law_385 ?_
  refine wp_top (nI (i + 1)) (nI_add _ _) ?_
  refine ws_at (pc := 386) hX hbl hbK hL dL_law_386 (show i + 1 < L by omega) ?_
  refine wp_aload_n (pc := 387) dL_law_387 rfl ?_
  refine wp_iload_n (pc := 388) dL_law_388 rfl ?_
  refine wp_ic (pc := 389) (x := nI 2) dL_law_389 ic_2 ?_
  refine wp_iadd (pc := 390) dL_law_390 ?_
  refine wp_top (nI (i + 2)) (nI_add _ _) ?_
  refine ws_at (pc := 391) hX hbl hbK hL dL_law_391 (show i + 2 < L by omega) ?_
  refine wf_callVi (pc := 392) dL_law_392 cl_L_55 (cm_give hm h.2.2.1 hB) lk_150 rfl rfl rfl rfl (Nat.le_of_ble_eq_true rfl) (by decide) ⟨by decide, by decide⟩ (fun r1 M1 q1 => ?_)
  obtain ⟨b1, b2, b3⟩ := q1
  refine wp_icmp_eq (pc := 395) 931 dL_law_395 (by decide) (fun h395 => ?_) (fun h395 => ?_)
  · exact cont _ _ (h.go a2 a3 b2 b3 ((OkV.give h.2.2.1 _ _).up (Nat.le_succ B)) (by unfold oGive oGiveN sGive; repeat' (first | rfl | split)))
  · exact absurd (a1.trans b1.symm) h395
theorem law_hour {E : EnvT} {K : CtxT} {Z : State → Prop} {b L : Nat} {xs : Nat → Int32} (hX : va_X b L xs (es E) (es E).heap) (hbl : b < (es E).heap.size) (hbK : b < K.1) (hL : L ≤ 2560) {i B : Nat} {s : Sv} {M : Mm} (h : ST B s M) (hB : B ≤ 9999) (hi : i + 5 ≤ L) (cont : ∀ s' M', ST (B + 1) s' M' → Wp E K mL_law 12 (600000, 7302250) 931 [some (.ref b), some (.ref (K.1 + 0)), some (.ref (K.1 + 150)), some (.int (nI i))] [] 168 M' 168 1456 Z) : Wp E K mL_law 12 (600000, 7302250) 400 [some (.ref b), some (.ref (K.1 + 0)), some (.ref (K.1 + 150)), some (.int (nI i))] [] 168 M 168 1456 Z := by
  refine wp_aload_n (pc := 400) dL_law_400 rfl ?_
  refine wf_callVi (pc := 401) dL_law_401 cl_L_56 (c_hour h.1 h.2.2.1 hB) lk_0 rfl rfl rfl rfl (Nat.le_of_ble_eq_true rfl) (by decide) ⟨by decide, by decide⟩ (fun r0 M0 q0 => ?_)
  obtain ⟨a1, a2, a3⟩ := q0
  have hm := h.mid a2 a3
  refine wp_aload_n (pc := 404) dL_law_404 rfl ?_
  refine wf_callVi (pc := 405) dL_law_405 cl_L_59 (cm_hour hm h.2.2.1 hB) lk_150 rfl rfl rfl rfl (Nat.le_of_ble_eq_true rfl) (by decide) ⟨by decide, by decide⟩ (fun r1 M1 q1 => ?_)
  obtain ⟨b1, b2, b3⟩ := q1
  refine wp_icmp_eq (pc := 408) 931 dL_law_408 (by decide) (fun h408 => ?_) (fun h408 => ?_)
  · exact cont _ _ (h.go a2 a3 b2 b3 (OkV.hour h.2.2.1) rfl)
  · exact absurd (a1.trans b1.symm) h408
theorem law_undo {E : EnvT} {K : CtxT} {Z : State → Prop} {b L : Nat} {xs : Nat → Int32} (hX : va_X b L xs (es E) (es E).heap) (hbl : b < (es E).heap.size) (hbK : b < K.1) (hL : L ≤ 2560) {i B : Nat} {s : Sv} {M : Mm} (h : ST B s M) (hB : B ≤ 9999) (hi : i + 5 ≤ L) (cont : ∀ s' M', ST (B + 1) s' M' → Wp E K mL_law 12 (600000, 7302250) 931 [some (.ref b), some (.ref (K.1 + 0)), some (.ref (K.1 + 150)), some (.int (nI i))] [] 168 M' 168 1456 Z) : Wp E K mL_law 12 (600000, 7302250) 413 [some (.ref b), some (.ref (K.1 + 0)), some (.ref (K.1 + 150)), some (.int (nI i))] [] 168 M 168 1456 Z := by
  refine wp_aload_n (pc := 413) dL_law_413 rfl ?_
  refine wf_callVi (pc := 414) dL_law_414 cl_L_60 (c_undo h.1 h.2.2.1 hB) lk_0 rfl rfl rfl rfl (Nat.le_of_ble_eq_true rfl) (by decide) ⟨by decide, by decide⟩ (fun r0 M0 q0 => ?_)
  obtain ⟨a1, a2, a3⟩ := q0
  have hm := h.mid a2 a3
  refine wp_aload_n (pc := 417) dL_law_417 rfl ?_
  refine wf_callVi (pc := 418) dL_law_418 cl_L_63 (cm_undo hm h.2.2.1 hB) lk_150 rfl rfl rfl rfl (Nat.le_of_ble_eq_true rfl) (by decide) ⟨by decide, by decide⟩ (fun r1 M1 q1 => ?_)
  obtain ⟨b1, b2, b3⟩ := q1
  refine wp_icmp_eq (pc := 421) 931 dL_law_421 (by decide) (fun h421 => ?_) (fun h421 => ?_)
  · exact cont _ _ (h.go a2 a3 b2 b3 ((OkV.undo h.2.2.1 hB).up (Nat.le_succ B)) (by unfold oUndo; repeat' (first | rfl | split)))
  · exact absurd (a1.trans b1.symm) h421
theorem law_caught {E : EnvT} {K : CtxT} {Z : State → Prop} {b L : Nat} {xs : Nat → Int32} (hX : va_X b L xs (es E) (es E).heap) (hbl : b < (es E).heap.size) (hbK : b < K.1) (hL : L ≤ 2560) {i B : Nat} {s : Sv} {M : Mm} (h : ST B s M) (hB : B ≤ 9999) (hi : i + 5 ≤ L) (cont : ∀ s' M', ST (B + 1) s' M' → Wp E K mL_law 12 (600000, 7302250) 931 [some (.ref b), some (.ref (K.1 + 0)), some (.ref (K.1 + 150)), some (.int (nI i))] [] 168 M' 168 1456 Z) : Wp E K mL_law 12 (600000, 7302250) 426 [some (.ref b), some (.ref (K.1 + 0)), some (.ref (K.1 + 150)), some (.int (nI i))] [] 168 M 168 1456 Z := by
  refine wp_aload_n (pc := 426) dL_law_426 rfl ?_
  refine wp_aload_n (pc := 427) dL_law_427 rfl ?_
  refine wp_iload_n (pc := 428) dL_law_428 rfl ?_
  refine wp_ic (pc := 429) (x := nI 1) dL_law_429 ic_1 ?_
  refine wp_iadd (pc := 430) dL_law_430 ?_
  refine wp_top (nI (i + 1)) (nI_add _ _) ?_
  refine ws_at (pc := 431) hX hbl hbK hL dL_law_431 (show i + 1 < L by omega) ?_
  refine wf_callVi (pc := 432) dL_law_432 cl_L_64 (c_caught h.1 h.2.2.1 hB) lk_0 rfl rfl rfl rfl (Nat.le_of_ble_eq_true rfl) (by decide) ⟨by decide, by decide⟩ (fun r0 M0 q0 => ?_)
  obtain ⟨a1, a2, a3⟩ := q0
  have hm := h.mid a2 a3
  refine wp_aload_n (pc := 435) dL_law_435 rfl ?_
  refine wp_aload_n (pc := 436) dL_law_436 rfl ?_
  refine wp_iload_n (pc := 437) dL_law_437 rfl ?_
  refine wp_ic (pc := 438) (x := nI 1) dL_law_438 ic_1 ?_
  refine wp_iadd (pc := 439) dL_law_439 ?_
  refine wp_top (nI (i + 1)) (nI_add _ _) ?_
  refine ws_at (pc := 440) hX hbl hbK hL dL_law_440 (show i + 1 < L by omega) ?_
  refine wf_callVi (pc := 441) dL_law_441 cl_L_67 (cm_caught hm h.2.2.1 hB) lk_150 rfl rfl rfl rfl (Nat.le_of_ble_eq_true rfl) (by decide) ⟨by decide, by decide⟩ (fun r1 M1 q1 => ?_)
  obtain ⟨b1, b2, b3⟩ := q1
  refine wp_icmp_eq (pc := 444) 931 dL_law_444 (by decide) (fun h444 => ?_) (fun h444 => ?_)
  · exact cont _ _ (h.go a2 a3 b2 b3 (h.2.2.1.up (Nat.le_succ B)) rfl)
  · exact absurd (a1.trans b1.symm) h444
theorem law_routes {E : EnvT} {K : CtxT} {Z : State → Prop} {b L : Nat} {xs : Nat → Int32} (hX : va_X b L xs (es E) (es E).heap) (hbl : b < (es E).heap.size) (hbK : b < K.1) (hL : L ≤ 2560) {i B : Nat} {s : Sv} {M : Mm} (h : ST B s M) (hB : B ≤ 9999) (hi : i + 5 ≤ L) (cont : ∀ s' M', ST (B + 1) s' M' → Wp E K mL_law 12 (600000, 7302250) 931 [some (.ref b), some (.ref (K.1 + 0)), some (.ref (K.1 + 150)), some (.int (nI i))] [] 168 M' 168 1456 Z) : Wp E K mL_law 12 (600000, 7302250) 449 [some (.ref b), some (.ref (K.1 + 0)), some (.ref (K.1 + 150)), some (.int (nI i))] [] 168 M 168 1456 Z := by
  refine wp_aload_n (pc := 449) dL_law_449 rfl ?_
  refine wp_aload_n (pc := 450) dL_law_450 rfl ?_
  refine wp_iload_n (pc := 451) dL_law_451 rfl ?_
  refine wp_ic (pc := 452) (x := nI 1) dL_law_452 ic_1 ?_
  refine wp_iadd (pc := 453) dL_law_453 ?_
  refine wp_top (nI (i + 1)) (nI_add _ _) ?_
  refine ws_at (pc := 454) hX hbl hbK hL dL_law_454 (show i + 1 < L by omega) ?_
  refine wp_aload_n (pc := 455) dL_law_455 rfl ?_
  refine wp_iload_n (pc := 456) dL_law_456 rfl ?_
  refine wp_ic (pc := 457) (x := nI 2) dL_law_457 ic_2 ?_
  refine wp_iadd (pc := 458) dL_law_458 ?_
  refine wp_top (nI (i + 2)) (nI_add _ _) ?_
  refine ws_at (pc := 459) hX hbl hbK hL dL_law_459 (show i + 2 < L by omega) ?_
  refine wp_aload_n (pc := 460) dL_law_460 rfl ?_
  refine wp_iload_n (pc := 461) dL_law_461 rfl ?_
  refine wp_ic (pc := 462) (x := nI 3) dL_law_462 ic_3 ?_
  refine wp_iadd (pc := 463) dL_law_463 ?_
  refine wp_top (nI (i + 3)) (nI_add _ _) ?_
  refine ws_at (pc := 464) hX hbl hbK hL dL_law_464 (show i + 3 < L by omega) ?_
  refine wp_aload_n (pc := 465) dL_law_465 rfl ?_
  refine wp_iload_n (pc := 466) dL_law_466 rfl ?_
  refine wp_ic (pc := 467) (x := nI 4) dL_law_467 ic_4 ?_
  refine wp_iadd (pc := 468) dL_law_468 ?_
  refine wp_top (nI (i + 4)) (nI_add _ _) ?_
  refine ws_at (pc := 469) hX hbl hbK hL dL_law_469 (show i + 4 < L by omega) ?_
  refine wf_callVi (pc := 470) dL_law_470 cl_L_68 (c_routes h.1 h.2.2.1 hB) lk_0 rfl rfl rfl rfl (Nat.le_of_ble_eq_true rfl) (by decide) ⟨by decide, by decide⟩ (fun r0 M0 q0 => ?_)
  obtain ⟨a1, a2, a3⟩ := q0
  have hm := h.mid a2 a3
  refine wp_aload_n (pc := 473) dL_law_473 rfl ?_
  refine wp_aload_n (pc := 474) dL_law_474 rfl ?_
  refine wp_iload_n (pc := 475) dL_law_475 rfl ?_
  refine wp_ic (pc := 476) (x := nI 1) dL_law_476 ic_1 ?_
  refine wp_iadd (pc := 477) dL_law_477 ?_
  refine wp_top (nI (i + 1)) (nI_add _ _) ?_
  refine ws_at (pc := 478) hX hbl hbK hL dL_law_478 (show i + 1 < L by omega) ?_
  refine wp_aload_n (pc := 479) dL_law_479 rfl ?_
  refine wp_iload_n (pc := 480) dL_law_480 rfl ?_
  refine wp_ic (pc := 481) (x := nI 2) dL_law_481 ic_2 ?_
  refine wp_iadd (pc := 482) dL_law_482 ?_
  refine wp_top (nI (i + 2)) (nI_add _ _) ?_
  refine ws_at (pc := 483) hX hbl hbK hL dL_law_483 (show i + 2 < L by omega) ?_
  refine wp_aload_n (pc := 484) dL_law_484 rfl ?_
  refine wp_iload_n (pc := 485) dL_law_485 rfl ?_
  refine wp_ic (pc := 486) (x := nI 3) dL_law_486 ic_3 ?_
  refine wp_iadd (pc := 487) dL_law_487 ?_
  refine wp_top (nI (i + 3)) (nI_add _ _) ?_
  refine ws_at (pc := 488) hX hbl hbK hL dL_law_488 (show i + 3 < L by omega) ?_
  refine wp_aload_n (pc := 489) dL_law_489 rfl ?_
  refine wp_iload_n (pc := 490) dL_law_490 rfl ?_
  refine wp_ic (pc := 491) (x := nI 4) dL_law_491 ic_4 ?_
  refine wp_iadd (pc := 492) dL_law_492 ?_
  refine wp_top (nI (i + 4)) (nI_add _ _) ?_
  refine ws_at (pc := 493) hX hbl hbK hL dL_law_493 (show i + 4 < L by omega) ?_
  refine wf_callVi (pc := 494) dL_law_494 cl_L_72 (cm_routes hm h.2.2.1 hB) lk_150 rfl rfl rfl rfl (Nat.le_of_ble_eq_true rfl) (by decide) ⟨by decide, by decide⟩ (fun r1 M1 q1 => ?_)
  obtain ⟨b1, b2, b3⟩ := q1
  refine wp_icmp_eq (pc := 497) 931 dL_law_497 (by decide) (fun h497 => ?_) (fun h497 => ?_)
  · exact cont _ _ (h.go a2 a3 b2 b3 (h.2.2.1.up (Nat.le_succ B)) rfl)
  · exact absurd (a1.trans b1.symm) h497
theorem law_aired {E : EnvT} {K : CtxT} {Z : State → Prop} {b L : Nat} {xs : Nat → Int32} (hX : va_X b L xs (es E) (es E).heap) (hbl : b < (es E).heap.size) (hbK : b < K.1) (hL : L ≤ 2560) {i B : Nat} {s : Sv} {M : Mm} (h : ST B s M) (hB : B ≤ 9999) (hi : i + 5 ≤ L) (cont : ∀ s' M', ST (B + 1) s' M' → Wp E K mL_law 12 (600000, 7302250) 931 [some (.ref b), some (.ref (K.1 + 0)), some (.ref (K.1 + 150)), some (.int (nI i))] [] 168 M' 168 1456 Z) : Wp E K mL_law 12 (600000, 7302250) 502 [some (.ref b), some (.ref (K.1 + 0)), some (.ref (K.1 + 150)), some (.int (nI i))] [] 168 M 168 1456 Z := by
  refine wp_aload_n (pc := 502) dL_law_502 rfl ?_
  refine wp_aload_n (pc := 503) dL_law_503 rfl ?_
  refine wp_iload_n (pc := 504) dL_law_504 rfl ?_
  refine wp_ic (pc := 505) (x := nI 1) dL_law_505 ic_1 ?_
  refine wp_iadd (pc := 506) dL_law_506 ?_
  refine wp_top (nI (i + 1)) (nI_add _ _) ?_
  refine ws_at (pc := 507) hX hbl hbK hL dL_law_507 (show i + 1 < L by omega) ?_
  refine wf_callVi (pc := 508) dL_law_508 cl_L_73 (c_aired h.1 h.2.2.1 hB) lk_0 rfl rfl rfl rfl (Nat.le_of_ble_eq_true rfl) (by decide) ⟨by decide, by decide⟩ (fun r0 M0 q0 => ?_)
  obtain ⟨a1, a2, a3⟩ := q0
  have hm := h.mid a2 a3
  refine wp_aload_n (pc := 511) dL_law_511 rfl ?_
  refine wp_aload_n (pc := 512) dL_law_512 rfl ?_
  refine wp_iload_n (pc := 513) dL_law_513 rfl ?_
  refine wp_ic (pc := 514) (x := nI 1) dL_law_514 ic_1 ?_
  refine wp_iadd (pc := 515) dL_law_515 ?_
  refine wp_top (nI (i + 1)) (nI_add _ _) ?_
  refine ws_at (pc := 516) hX hbl hbK hL dL_law_516 (show i + 1 < L by omega) ?_
  refine wf_callVi (pc := 517) dL_law_517 cl_L_76 (cm_aired hm h.2.2.1 hB) lk_150 rfl rfl rfl rfl (Nat.le_of_ble_eq_true rfl) (by decide) ⟨by decide, by decide⟩ (fun r1 M1 q1 => ?_)
  obtain ⟨b1, b2, b3⟩ := q1
  refine wp_icmp_eq (pc := 520) 931 dL_law_520 (by decide) (fun h520 => ?_) (fun h520 => ?_)
  · exact cont _ _ (h.go a2 a3 b2 b3 (h.2.2.1.up (Nat.le_succ B)) rfl)
  · exact absurd (aired_uq a1 b1) h520
theorem law_heir {E : EnvT} {K : CtxT} {Z : State → Prop} {b L : Nat} {xs : Nat → Int32} (hX : va_X b L xs (es E) (es E).heap) (hbl : b < (es E).heap.size) (hbK : b < K.1) (hL : L ≤ 2560) {i B : Nat} {s : Sv} {M : Mm} (h : ST B s M) (hB : B ≤ 9999) (hi : i + 5 ≤ L) (cont : ∀ s' M', ST (B + 1) s' M' → Wp E K mL_law 12 (600000, 7302250) 931 [some (.ref b), some (.ref (K.1 + 0)), some (.ref (K.1 + 150)), some (.int (nI i))] [] 168 M' 168 1456 Z) : Wp E K mL_law 12 (600000, 7302250) 525 [some (.ref b), some (.ref (K.1 + 0)), some (.ref (K.1 + 150)), some (.int (nI i))] [] 168 M 168 1456 Z := by
  refine wp_aload_n (pc := 525) dL_law_525 rfl ?_
  refine wp_aload_n (pc := 526) dL_law_526 rfl ?_
  refine wp_iload_n (pc := 527) dL_law_527 rfl ?_
  refine wp_ic (pc := 528) (x := nI 1) dL_law_528 ic_1 ?_
  refine wp_iadd (pc := 529) dL_law_529 ?_
  refine wp_top (nI (i + 1)) (nI_add _ _) ?_
  refine ws_at (pc := 530) hX hbl hbK hL dL_law_530 (show i + 1 < L by omega) ?_
  refine wf_callVi (pc := 531) dL_law_531 cl_L_77 (c_heir h.1 h.2.2.1 hB) lk_0 rfl rfl rfl rfl (Nat.le_of_ble_eq_true rfl) (by decide) ⟨by decide, by decide⟩ (fun r0 M0 q0 => ?_)
  obtain ⟨a1, a2, a3⟩ := q0
  have hm := h.mid a2 a3
  refine wp_aload_n (pc := 534) dL_law_534 rfl ?_
  refine wp_aload_n (pc := 535) dL_law_535 rfl ?_
  refine wp_iload_n (pc := 536) dL_law_536 rfl ?_
  refine wp_ic (pc := 537) (x := nI 1) dL_law_537 ic_1 ?_
  refine wp_iadd (pc := 538) dL_law_538 ?_
  refine wp_top (nI (i + 1)) (nI_add _ _) ?_
  refine ws_at (pc := 539) hX hbl hbK hL dL_law_539 (show i + 1 < L by omega) ?_
  refine wf_callVi (pc := 540) dL_law_540 cl_L_80 (cm_heir hm h.2.2.1 hB h.2.2.2.1) lk_150 rfl rfl rfl rfl (Nat.le_of_ble_eq_true rfl) (by decide) ⟨by decide, by decide⟩ (fun r1 M1 q1 => ?_)
  obtain ⟨b1, b2, b3⟩ := q1
  refine wp_icmp_eq (pc := 543) 931 dL_law_543 (by decide) (fun h543 => ?_) (fun h543 => ?_)
  · exact cont _ _ (h.go a2 a3 b2 b3 (h.2.2.1.up (Nat.le_succ B)) rfl)
  · exact absurd (a1.trans b1.symm) h543
theorem law_pays {E : EnvT} {K : CtxT} {Z : State → Prop} {b L : Nat} {xs : Nat → Int32} (hX : va_X b L xs (es E) (es E).heap) (hbl : b < (es E).heap.size) (hbK : b < K.1) (hL : L ≤ 2560) {i B : Nat} {s : Sv} {M : Mm} (h : ST B s M) (hB : B ≤ 9999) (hi : i + 5 ≤ L) (cont : ∀ s' M', ST (B + 1) s' M' → Wp E K mL_law 12 (600000, 7302250) 931 [some (.ref b), some (.ref (K.1 + 0)), some (.ref (K.1 + 150)), some (.int (nI i))] [] 168 M' 168 1456 Z) : Wp E K mL_law 12 (600000, 7302250) 548 [some (.ref b), some (.ref (K.1 + 0)), some (.ref (K.1 + 150)), some (.int (nI i))] [] 168 M 168 1456 Z := by
  refine wp_aload_n (pc := 548) dL_law_548 rfl ?_
  refine wp_aload_n (pc := 549) dL_law_549 rfl ?_
  refine wp_iload_n (pc := 550) dL_law_550 rfl ?_
  refine wp_ic (pc := 551) (x := nI 1) dL_law_551 ic_1 ?_
  refine wp_iadd (pc := 552) dL_law_552 ?_
  refine wp_top (nI (i + 1)) (nI_add _ _) ?_
  refine ws_at (pc := 553) hX hbl hbK hL dL_law_553 (show i + 1 < L by omega) ?_
  refine wp_aload_n (pc := 554) dL_law_554 rfl ?_
  refine wp_iload_n (pc := 555) dL_law_555 rfl ?_
  refine wp_ic (pc := 556) (x := nI 2) dL_law_556 ic_2 ?_
  refine wp_iadd (pc := 557) dL_law_557 ?_
  refine wp_top (nI (i + 2)) (nI_add _ _) ?_
  refine ws_at (pc := 558) hX hbl hbK hL dL_law_558 (show i + 2 < L by omega) ?_
  refine wf_callVi (pc := 559) dL_law_559 cl_L_81 (c_pays h.1 h.2.2.1 hB) lk_0 rfl rfl rfl rfl (Nat.le_of_ble_eq_true rfl) (by decide) ⟨by decide, by decide⟩ (fun r0 M0 q0 => ?_)
  obtain ⟨a1, a2, a3⟩ := q0
  have hm := h.mid a2 a3
  refine wp_aload_n (pc := 562) dL_law_562 rfl ?_
  refine wp_aload_n (pc := 563) dL_law_563 rfl ?_
  refine wp_iload_n (pc := 564) dL_law_564 rfl ?_
  refine wp_ic (pc := 565) (x := nI 1) dL_law_565 ic_1 ?_
  refine wp_iadd (pc := 566) dL_law_566 ?_
  refine wp_top (nI (i + 1)) (nI_add _ _) ?_
  refine ws_at (pc := 567) hX hbl hbK hL dL_law_567 (show i + 1 < L by omega) ?_
  refine wp_aload_n (pc := 568) dL_law_568 rfl ?_
  refine wp_iload_n (pc := 569) dL_law_569 rfl ?_
  refine wp_ic (pc := 570) (x := nI 2) dL_law_570 ic_2 ?_
  refine wp_iadd (pc := 571) dL_law_571 ?_
  refine wp_top (nI (i + 2)) (nI_add _ _) ?_
  refine ws_at (pc := 572) hX hbl hbK hL dL_law_572 (show i + 2 < L by omega) ?_
  refine wf_callVi (pc := 573) dL_law_573 cl_L_84 (cm_pays hm h.2.2.1 hB) lk_150 rfl rfl rfl rfl (Nat.le_of_ble_eq_true rfl) (by decide) ⟨by decide, by decide⟩ (fun r1 M1 q1 => ?_)
  obtain ⟨b1, b2, b3⟩ := q1
  refine wp_icmp_eq (pc := 576) 931 dL_law_576 (by decide) (fun h576 => ?_) (fun h576 => ?_)
  · exact cont _ _ (h.go a2 a3 b2 b3 (h.2.2.1.up (Nat.le_succ B)) rfl)
  · exact absurd (a1.trans b1.symm) h576
theorem law_spans {E : EnvT} {K : CtxT} {Z : State → Prop} {b L : Nat} {xs : Nat → Int32} (hX : va_X b L xs (es E) (es E).heap) (hbl : b < (es E).heap.size) (hbK : b < K.1) (hL : L ≤ 2560) {i B : Nat} {s : Sv} {M : Mm} (h : ST B s M) (hB : B ≤ 9999) (hi : i + 5 ≤ L) (cont : ∀ s' M', ST (B + 1) s' M' → Wp E K mL_law 12 (600000, 7302250) 931 [some (.ref b), some (.ref (K.1 + 0)), some (.ref (K.1 + 150)), some (.int (nI i))] [] 168 M' 168 1456 Z) : Wp E K mL_law 12 (600000, 7302250) 581 [some (.ref b), some (.ref (K.1 + 0)), some (.ref (K.1 + 150)), some (.int (nI i))] [] 168 M 168 1456 Z := by
  refine wp_aload_n (pc := 581) dL_law_581 rfl ?_
  refine wp_aload_n (pc := 582) dL_law_582 rfl ?_
  refine wp_iload_n (pc := 583) dL_law_583 rfl ?_
  refine wp_ic (pc := 584) (x := nI 1) dL_law_584 ic_1 ?_
  refine wp_iadd (pc := 585) dL_law_585 ?_
  refine wp_top (nI (i + 1)) (nI_add _ _) ?_
  refine ws_at (pc := 586) hX hbl hbK hL dL_law_586 (show i + 1 < L by omega) ?_
  refine wp_aload_n (pc := 587) dL_law_587 rfl ?_
  refine wp_iload_n (pc := 588) dL_law_588 rfl ?_
  refine wp_ic (pc := 589) (x := nI 2) dL_law_589 ic_2 ?_
  refine wp_iadd (pc := 590) dL_law_590 ?_
  refine wp_top (nI (i + 2)) (nI_add _ _) ?_
  refine ws_at (pc := 591) hX hbl hbK hL dL_law_591 (show i + 2 < L by omega) ?_
  refine wp_aload_n (pc := 592) dL_law_592 rfl ?_
  refine wp_iload_n (pc := 593) dL_law_593 rfl ?_
  refine wp_ic (pc := 594) (x := nI 3) dL_law_594 ic_3 ?_
  refine wp_iadd (pc := 595) dL_law_595 ?_
  refine wp_top (nI (i + 3)) (nI_add _ _) ?_
  refine ws_at (pc := 596) hX hbl hbK hL dL_law_596 (show i + 3 < L by omega) ?_
  refine wf_callVi (pc := 597) dL_law_597 cl_L_85 (c_spans h.1) lk_0 rfl rfl rfl rfl (Nat.le_of_ble_eq_true rfl) (by decide) ⟨by decide, by decide⟩ (fun r0 M0 q0 => ?_)
  obtain ⟨a1, a2, a3⟩ := q0
  have hm := h.mid a2 a3
  refine wp_aload_n (pc := 600) dL_law_600 rfl ?_
  refine wp_aload_n (pc := 601) dL_law_601 rfl ?_
  refine wp_iload_n (pc := 602) dL_law_602 rfl ?_
  refine wp_ic (pc := 603) (x := nI 1) dL_law_603 ic_1 ?_
  refine wp_iadd (pc := 604) dL_law_604 ?_
  refine wp_top (nI (i + 1)) (nI_add _ _) ?_
  refine ws_at (pc := 605) hX hbl hbK hL dL_law_605 (show i + 1 < L by omega) ?_
  refine wp_aload_n (pc := 606) dL_law_606 rfl ?_
  refine wp_iload_n (pc := 607) dL_law_607 rfl ?_
  refine wp_ic (pc := 608) (x := nI 2) dL_law_608 ic_2 ?_
  refine wp_iadd (pc := 609) dL_law_609 ?_
  refine wp_top (nI (i + 2)) (nI_add _ _) ?_
  refine ws_at (pc := 610) hX hbl hbK hL dL_law_610 (show i + 2 < L by omega) ?_
  refine wp_aload_n (pc := 611) dL_law_611 rfl ?_
  refine wp_iload_n (pc := 612) dL_law_612 rfl ?_
  refine wp_ic (pc := 613) (x := nI 3) dL_law_613 ic_3 ?_
  refine wp_iadd (pc := 614) dL_law_614 ?_
  refine wp_top (nI (i + 3)) (nI_add _ _) ?_
  refine ws_at (pc := 615) hX hbl hbK hL dL_law_615 (show i + 3 < L by omega) ?_
  refine wf_callVi (pc := 616) dL_law_616 cl_L_89 (cm_spans hm) lk_150 rfl rfl rfl rfl (Nat.le_of_ble_eq_true rfl) (by decide) ⟨by decide, by decide⟩ (fun r1 M1 q1 => ?_)
  obtain ⟨b1, b2, b3⟩ := q1
  refine wp_icmp_eq (pc := 619) 931 dL_law_619 (by decide) (fun h619 => ?_) (fun h619 => ?_)
  · exact cont _ _ (h.go a2 a3 b2 b3 (h.2.2.1.up (Nat.le_succ B)) rfl)
  · exact absurd (a1.trans b1.symm) h619
theorem law_see {E : EnvT} {K : CtxT} {Z : State → Prop} {b L : Nat} {xs : Nat → Int32} (hX : va_X b L xs (es E) (es E).heap) (hbl : b < (es E).heap.size) (hbK : b < K.1) (hL : L ≤ 2560) {i B : Nat} {s : Sv} {M : Mm} (h : ST B s M) (hB : B ≤ 9999) (hi : i + 5 ≤ L) (cont : ∀ s' M', ST (B + 1) s' M' → Wp E K mL_law 12 (600000, 7302250) 931 [some (.ref b), some (.ref (K.1 + 0)), some (.ref (K.1 + 150)), some (.int (nI i))] [] 168 M' 168 1456 Z) : Wp E K mL_law 12 (600000, 7302250) 624 [some (.ref b), some (.ref (K.1 + 0)), some (.ref (K.1 + 150)), some (.int (nI i))] [] 168 M 168 1456 Z := by
  refine wp_aload_n (pc := 624) dL_law_624 rfl ?_
  refine wp_aload_n (pc := 625) dL_law_625 rfl ?_
  refine wp_iload_n (pc := 626) dL_law_626 rfl ?_
  refine wp_ic (pc := 627) (x := nI 1) dL_law_627 ic_1 ?_
  refine wp_iadd (pc := 628) dL_law_628 ?_
  refine wp_top (nI (i + 1)) (nI_add _ _) ?_
  refine ws_at (pc := 629) hX hbl hbK hL dL_law_629 (show i + 1 < L by omega) ?_
  refine wp_aload_n (pc := 630) dL_law_630 rfl ?_
  refine wp_iload_n (pc := 631) dL_law_631 rfl ?_
  refine wp_ic (pc := 632) (x := nI 2) dL_law_632 ic_2 ?_
  refine wp_iadd (pc := 633) dL_law_633 ?_
  refine wp_top (nI (i + 2)) (nI_add _ _) ?_
  refine ws_at (pc := 634) hX hbl hbK hL dL_law_634 (show i + 2 < L by omega) ?_
  refine wp_aload_n (pc := 635) dL_law_635 rfl ?_
  refine wp_iload_n (pc := 636) dL_law_636 rfl ?_
  refine wp_ic (pc := 637) (x := nI 3) dL_law_637 ic_3 ?_
  refine wp_iadd (pc := 638) dL_law_638 ?_
  refine wp_top (nI (i + 3)) (nI_add _ _) ?_
  refine ws_at (pc := 639) hX hbl hbK hL dL_law_639 (show i + 3 < L by omega) ?_
  refine wf_callVi (pc := 640) dL_law_640 cl_L_90 (c_see h.1 h.2.2.1 hB) lk_0 rfl rfl rfl rfl (Nat.le_of_ble_eq_true rfl) (by decide) ⟨by decide, by decide⟩ (fun r0 M0 q0 => ?_)
  obtain ⟨a1, a2, a3⟩ := q0
  have hm := h.mid a2 a3
  refine wp_aload_n (pc := 643) dL_law_643 rfl ?_
  refine wp_aload_n (pc := 644) dL_law_644 rfl ?_
  refine wp_iload_n (pc := 645) dL_law_645 rfl ?_
  refine wp_ic (pc := 646) (x := nI 1) dL_law_646 ic_1 ?_
  refine wp_iadd (pc := 647) dL_law_647 ?_
  refine wp_top (nI (i + 1)) (nI_add _ _) ?_
  refine ws_at (pc := 648) hX hbl hbK hL dL_law_648 (show i + 1 < L by omega) ?_
  refine wp_aload_n (pc := 649) dL_law_649 rfl ?_
  refine wp_iload_n (pc := 650) dL_law_650 rfl ?_
  refine wp_ic (pc := 651) (x := nI 2) dL_law_651 ic_2 ?_
  refine wp_iadd (pc := 652) dL_law_652 ?_
  refine wp_top (nI (i + 2)) (nI_add _ _) ?_
  refine ws_at (pc := 653) hX hbl hbK hL dL_law_653 (show i + 2 < L by omega) ?_
  refine wp_aload_n (pc := 654) dL_law_654 rfl ?_
  refine wp_iload_n (pc := 655) dL_law_655 rfl ?_
  refine wp_ic (pc := 656) (x := nI 3) dL_law_656 ic_3 ?_
  refine wp_iadd (pc := 657) dL_law_657 ?_
  refine wp_top (nI (i + 3)) (nI_add _ _) ?_
  refine ws_at (pc := 658) hX hbl hbK hL dL_law_658 (show i + 3 < L by omega) ?_
  refine wf_callVi (pc := 659) dL_law_659 cl_L_93 (cm_see hm h.2.2.1 hB) lk_150 rfl rfl rfl rfl (Nat.le_of_ble_eq_true rfl) (by decide) ⟨by decide, by decide⟩ (fun r1 M1 q1 => ?_)
  obtain ⟨b1, b2, b3⟩ := q1
  refine wp_icmp_eq (pc := 662) 931 dL_law_662 (by decide) (fun h662 => ?_) (fun h662 => ?_)
  · exact cont _ _ (h.go a2 a3 b2 b3 ((OkV.see h.2.2.1 _ _ _).up (Nat.le_succ B)) (by unfold oSee; repeat' (first | rfl | split)))
  · exact absurd (a1.trans b1.symm) h662
theorem law_unsee {E : EnvT} {K : CtxT} {Z : State → Prop} {b L : Nat} {xs : Nat → Int32} (hX : va_X b L xs (es E) (es E).heap) (hbl : b < (es E).heap.size) (hbK : b < K.1) (hL : L ≤ 2560) {i B : Nat} {s : Sv} {M : Mm} (h : ST B s M) (hB : B ≤ 9999) (hi : i + 5 ≤ L) (cont : ∀ s' M', ST (B + 1) s' M' → Wp E K mL_law 12 (600000, 7302250) 931 [some (.ref b), some (.ref (K.1 + 0)), some (.ref (K.1 + 150)), some (.int (nI i))] [] 168 M' 168 1456 Z) : Wp E K mL_law 12 (600000, 7302250) 667 [some (.ref b), some (.ref (K.1 + 0)), some (.ref (K.1 + 150)), some (.int (nI i))] [] 168 M 168 1456 Z := by
  refine wp_aload_n (pc := 667) dL_law_667 rfl ?_
  refine wf_callVi (pc := 668) dL_law_668 cl_L_94 (c_unsee h.1 h.2.2.1 hB) lk_0 rfl rfl rfl rfl (Nat.le_of_ble_eq_true rfl) (by decide) ⟨by decide, by decide⟩ (fun r0 M0 q0 => ?_)
  obtain ⟨a1, a2, a3⟩ := q0
  have hm := h.mid a2 a3
  refine wp_aload_n (pc := 671) dL_law_671 rfl ?_
  refine wf_callVi (pc := 672) dL_law_672 cl_L_97 (cm_unsee hm h.2.2.1 hB) lk_150 rfl rfl rfl rfl (Nat.le_of_ble_eq_true rfl) (by decide) ⟨by decide, by decide⟩ (fun r1 M1 q1 => ?_)
  obtain ⟨b1, b2, b3⟩ := q1
  refine wp_icmp_eq (pc := 675) 931 dL_law_675 (by decide) (fun h675 => ?_) (fun h675 => ?_)
  · exact cont _ _ (h.go a2 a3 b2 b3 ((OkV.unsee h.2.2.1).up (Nat.le_succ B)) rfl)
  · exact absurd (a1.trans b1.symm) h675
theorem law_walks {E : EnvT} {K : CtxT} {Z : State → Prop} {b L : Nat} {xs : Nat → Int32} (hX : va_X b L xs (es E) (es E).heap) (hbl : b < (es E).heap.size) (hbK : b < K.1) (hL : L ≤ 2560) {i B : Nat} {s : Sv} {M : Mm} (h : ST B s M) (hB : B ≤ 9999) (hi : i + 5 ≤ L) (cont : ∀ s' M', ST (B + 1) s' M' → Wp E K mL_law 12 (600000, 7302250) 931 [some (.ref b), some (.ref (K.1 + 0)), some (.ref (K.1 + 150)), some (.int (nI i))] [] 168 M' 168 1456 Z) : Wp E K mL_law 12 (600000, 7302250) 680 [some (.ref b), some (.ref (K.1 + 0)), some (.ref (K.1 + 150)), some (.int (nI i))] [] 168 M 168 1456 Z := by
  refine wp_aload_n (pc := 680) dL_law_680 rfl ?_
  refine wf_callVi (pc := 681) dL_law_681 cl_L_98 (c_walks h.1 h.2.2.1 hB) lk_0 rfl rfl rfl rfl (Nat.le_of_ble_eq_true rfl) (by decide) ⟨by decide, by decide⟩ (fun r0 M0 q0 => ?_)
  obtain ⟨a1, a2, a3⟩ := q0
  have hm := h.mid a2 a3
  refine wp_aload_n (pc := 684) dL_law_684 rfl ?_
  refine wf_callVi (pc := 685) dL_law_685 cl_L_101 (cm_walks hm h.2.2.1 hB) lk_150 rfl rfl rfl rfl (Nat.le_of_ble_eq_true rfl) (by decide) ⟨by decide, by decide⟩ (fun r1 M1 q1 => ?_)
  obtain ⟨b1, b2, b3⟩ := q1
  refine wp_icmp_eq (pc := 688) 931 dL_law_688 (by decide) (fun h688 => ?_) (fun h688 => ?_)
  · exact cont _ _ (h.go a2 a3 b2 b3 (h.2.2.1.up (Nat.le_succ B)) rfl)
  · exact absurd (a1.trans b1.symm) h688
theorem law_sure {E : EnvT} {K : CtxT} {Z : State → Prop} {b L : Nat} {xs : Nat → Int32} (hX : va_X b L xs (es E) (es E).heap) (hbl : b < (es E).heap.size) (hbK : b < K.1) (hL : L ≤ 2560) {i B : Nat} {s : Sv} {M : Mm} (h : ST B s M) (hB : B ≤ 9999) (hi : i + 5 ≤ L) (cont : ∀ s' M', ST (B + 1) s' M' → Wp E K mL_law 12 (600000, 7302250) 931 [some (.ref b), some (.ref (K.1 + 0)), some (.ref (K.1 + 150)), some (.int (nI i))] [] 168 M' 168 1456 Z) : Wp E K mL_law 12 (600000, 7302250) 693 [some (.ref b), some (.ref (K.1 + 0)), some (.ref (K.1 + 150)), some (.int (nI i))] [] 168 M 168 1456 Z := by
  refine wp_aload_n (pc := 693) dL_law_693 rfl ?_
  refine wp_aload_n (pc := 694) dL_law_694 rfl ?_
  refine wp_iload_n (pc := 695) dL_law_695 rfl ?_
  refine wp_ic (pc := 696) (x := nI 1) dL_law_696 ic_1 ?_
  refine wp_iadd (pc := 697) dL_law_697 ?_
  refine wp_top (nI (i + 1)) (nI_add _ _) ?_
  refine ws_at (pc := 698) hX hbl hbK hL dL_law_698 (show i + 1 < L by omega) ?_
  refine wf_callVi (pc := 699) dL_law_699 cl_L_102 (c_sure h.1 h.2.2.1 hB) lk_0 rfl rfl rfl rfl (Nat.le_of_ble_eq_true rfl) (by decide) ⟨by decide, by decide⟩ (fun r0 M0 q0 => ?_)
  obtain ⟨a1, a2, a3⟩ := q0
  have hm := h.mid a2 a3
  refine wp_aload_n (pc := 702) dL_law_702 rfl ?_
  refine wp_aload_n (pc := 703) dL_law_703 rfl ?_
  refine wp_iload_n (pc := 704) dL_law_704 rfl ?_
  refine wp_ic (pc := 705) (x := nI 1) dL_law_705 ic_1 ?_
  refine wp_iadd (pc := 706) dL_law_706 ?_
  refine wp_top (nI (i + 1)) (nI_add _ _) ?_
  refine ws_at (pc := 707) hX hbl hbK hL dL_law_707 (show i + 1 < L by omega) ?_
  refine wf_callVi (pc := 708) dL_law_708 cl_L_105 (cm_sure hm h.2.2.1 hB) lk_150 rfl rfl rfl rfl (Nat.le_of_ble_eq_true rfl) (by decide) ⟨by decide, by decide⟩ (fun r1 M1 q1 => ?_)
  obtain ⟨b1, b2, b3⟩ := q1
  refine wp_icmp_eq (pc := 711) 931 dL_law_711 (by decide) (fun h711 => ?_) (fun h711 => ?_)
  · exact cont _ _ (h.go a2 a3 b2 b3 (h.2.2.1.up (Nat.le_succ B)) rfl)
  · exact absurd (a1.trans b1.symm) h711
theorem law_rests {E : EnvT} {K : CtxT} {Z : State → Prop} {b L : Nat} {xs : Nat → Int32} (hX : va_X b L xs (es E) (es E).heap) (hbl : b < (es E).heap.size) (hbK : b < K.1) (hL : L ≤ 2560) {i B : Nat} {s : Sv} {M : Mm} (h : ST B s M) (hB : B ≤ 9999) (hi : i + 5 ≤ L) (cont : ∀ s' M', ST (B + 1) s' M' → Wp E K mL_law 12 (600000, 7302250) 931 [some (.ref b), some (.ref (K.1 + 0)), some (.ref (K.1 + 150)), some (.int (nI i))] [] 168 M' 168 1456 Z) : Wp E K mL_law 12 (600000, 7302250) 716 [some (.ref b), some (.ref (K.1 + 0)), some (.ref (K.1 + 150)), some (.int (nI i))] [] 168 M 168 1456 Z := by
  refine wp_aload_n (pc := 716) dL_law_716 rfl ?_
  refine wp_aload_n (pc := 717) dL_law_717 rfl ?_
  refine wp_iload_n (pc := 718) dL_law_718 rfl ?_
  refine wp_ic (pc := 719) (x := nI 1) dL_law_719 ic_1 ?_
  refine wp_iadd (pc := 720) dL_law_720 ?_
  refine wp_top (nI (i + 1)) (nI_add _ _) ?_
  refine ws_at (pc := 721) hX hbl hbK hL dL_law_721 (show i + 1 < L by omega) ?_
  refine wp_aload_n (pc := 722) dL_law_722 rfl ?_
  refine wp_iload_n (pc := 723) dL_law_723 rfl ?_
  refine wp_ic (pc := 724) (x := nI 2) dL_law_724 ic_2 ?_
  refine wp_iadd (pc := 725) dL_law_725 ?_
  refine wp_top (nI (i + 2)) (nI_add _ _) ?_
  refine ws_at (pc := 726) hX hbl hbK hL dL_law_726 (show i + 2 < L by omega) ?_
  refine wf_callVi (pc := 727) dL_law_727 cl_L_106 (c_rests h.1) lk_0 rfl rfl rfl rfl (Nat.le_of_ble_eq_true rfl) (by decide) ⟨by decide, by decide⟩ (fun r0 M0 q0 => ?_)
  obtain ⟨a1, a2, a3⟩ := q0
  have hm := h.mid a2 a3
  refine wp_aload_n (pc := 730) dL_law_730 rfl ?_
  refine wp_aload_n (pc := 731) dL_law_731 rfl ?_
  refine wp_iload_n (pc := 732) dL_law_732 rfl ?_
  refine wp_ic (pc := 733) (x := nI 1) dL_law_733 ic_1 ?_
  refine wp_iadd (pc := 734) dL_law_734 ?_
  refine wp_top (nI (i + 1)) (nI_add _ _) ?_
  refine ws_at (pc := 735) hX hbl hbK hL dL_law_735 (show i + 1 < L by omega) ?_
  refine wp_aload_n (pc := 736) dL_law_736 rfl ?_
  refine wp_iload_n (pc := 737) dL_law_737 rfl ?_
  refine wp_ic (pc := 738) (x := nI 2) dL_law_738 ic_2 ?_
  refine wp_iadd (pc := 739) dL_law_739 ?_
  refine wp_top (nI (i + 2)) (nI_add _ _) ?_
  refine ws_at (pc := 740) hX hbl hbK hL dL_law_740 (show i + 2 < L by omega) ?_
  refine wf_callVi (pc := 741) dL_law_741 cl_L_109 (cm_rests hm h.2.2.1 hB) lk_150 rfl rfl rfl rfl (Nat.le_of_ble_eq_true rfl) (by decide) ⟨by decide, by decide⟩ (fun r1 M1 q1 => ?_)
  obtain ⟨b1, b2, b3⟩ := q1
  refine wp_icmp_eq (pc := 744) 931 dL_law_744 (by decide) (fun h744 => ?_) (fun h744 => ?_)
  · exact cont _ _ (h.go a2 a3 b2 b3 (h.2.2.1.up (Nat.le_succ B)) rfl)
  · exact absurd (a1.trans b1.symm) h744
theorem law_chance {E : EnvT} {K : CtxT} {Z : State → Prop} {b L : Nat} {xs : Nat → Int32} (hX : va_X b L xs (es E) (es E).heap) (hbl : b < (es E).heap.size) (hbK : b < K.1) (hL : L ≤ 2560) {i B : Nat} {s : Sv} {M : Mm} (h : ST B s M) (hB : B ≤ 9999) (hi : i + 5 ≤ L) (cont : ∀ s' M', ST (B + 1) s' M' → Wp E K mL_law 12 (600000, 7302250) 931 [some (.ref b), some (.ref (K.1 + 0)), some (.ref (K.1 + 150)), some (.int (nI i))] [] 168 M' 168 1456 Z) : Wp E K mL_law 12 (600000, 7302250) 749 [some (.ref b), some (.ref (K.1 + 0)), some (.ref (K.1 + 150)), some (.int (nI i))] [] 168 M 168 1456 Z := by
  refine wp_aload_n (pc := 749) dL_law_749 rfl ?_
  refine wp_aload_n (pc := 750) dL_law_750 rfl ?_
  refine wp_iload_n (pc := 751) dL_law_751 rfl ?_
  refine wp_ic (pc := 752) (x := nI 1) dL_law_752 ic_1 ?_
  refine wp_iadd (pc := 753) dL_law_753 ?_
  refine wp_top (nI (i + 1)) (nI_add _ _) ?_
  refine ws_at (pc := 754) hX hbl hbK hL dL_law_754 (show i + 1 < L by omega) ?_
  refine wp_aload_n (pc := 755) dL_law_755 rfl ?_
  refine wp_iload_n (pc := 756) dL_law_756 rfl ?_
  refine wp_ic (pc := 757) (x := nI 2) dL_law_757 ic_2 ?_
  refine wp_iadd (pc := 758) dL_law_758 ?_
  refine wp_top (nI (i + 2)) (nI_add _ _) ?_
  refine ws_at (pc := 759) hX hbl hbK hL dL_law_759 (show i + 2 < L by omega) ?_
  refine wp_aload_n (pc := 760) dL_law_760 rfl ?_
  refine wp_iload_n (pc := 761) dL_law_761 rfl ?_
  refine wp_ic (pc := 762) (x := nI 3) dL_law_762 ic_3 ?_
  refine wp_iadd (pc := 763) dL_law_763 ?_
  refine wp_top (nI (i + 3)) (nI_add _ _) ?_
  refine ws_at (pc := 764) hX hbl hbK hL dL_law_764 (show i + 3 < L by omega) ?_
  refine wp_if_eq (pc := 765) 772 dL_law_765 (by decide) (fun h765 => ?_) (fun h765 => ?_)
  · obtain ⟨u, hu⟩ : ∃ u, u = false := ⟨_, rfl⟩
    have hx3 := h765
    refine wp_ic (pc := 772) (x := nI 0) dL_law_772 ic_0 ?_
    refine wp_top (b2i u) (by rw [hu]; rfl) ?_
    refine wf_callVi (pc := 773) dL_law_773 cl_L_110 (c_chance (u := u) h.1 h.2.2.1 hB) lk_0 rfl rfl rfl rfl (Nat.le_of_ble_eq_true rfl) (by decide) ⟨by decide, by decide⟩ (fun r0 M0 q0 => ?_)
    obtain ⟨a1, a2, a3⟩ := q0
    have hm := h.mid a2 a3
    refine wp_aload_n (pc := 776) dL_law_776 rfl ?_
    refine wp_aload_n (pc := 777) dL_law_777 rfl ?_
    refine wp_iload_n (pc := 778) dL_law_778 rfl ?_
    refine wp_ic (pc := 779) (x := nI 1) dL_law_779 ic_1 ?_
    refine wp_iadd (pc := 780) dL_law_780 ?_
    refine wp_top (nI (i + 1)) (nI_add _ _) ?_
    refine ws_at (pc := 781) hX hbl hbK hL dL_law_781 (show i + 1 < L by omega) ?_
    refine wp_aload_n (pc := 782) dL_law_782 rfl ?_
    refine wp_iload_n (pc := 783) dL_law_783 rfl ?_
    refine wp_ic (pc := 784) (x := nI 2) dL_law_784 ic_2 ?_
    refine wp_iadd (pc := 785) dL_law_785 ?_
    refine wp_top (nI (i + 2)) (nI_add _ _) ?_
    refine ws_at (pc := 786) hX hbl hbK hL dL_law_786 (show i + 2 < L by omega) ?_
    refine wp_aload_n (pc := 787) dL_law_787 rfl ?_
    refine wp_iload_n (pc := 788) dL_law_788 rfl ?_
    refine wp_ic (pc := 789) (x := nI 3) dL_law_789 ic_3 ?_
    refine wp_iadd (pc := 790) dL_law_790 ?_
    refine wp_top (nI (i + 3)) (nI_add _ _) ?_
    refine ws_at (pc := 791) hX hbl hbK hL dL_law_791 (show i + 3 < L by omega) ?_
    refine wp_if_eq (pc := 792) 799 dL_law_792 (by decide) (fun h792 => ?_) (fun h792 => ?_)
    · refine wp_ic (pc := 799) (x := nI 0) dL_law_799 ic_0 ?_
      refine wp_top (b2i u) (by rw [hu]; rfl) ?_
      refine wf_callVi (pc := 800) dL_law_800 cl_L_114 (cR_chance (u := u) hm h.2.2.1 hB) lk_150 rfl rfl rfl rfl (Nat.le_of_ble_eq_true rfl) (by decide) ⟨by decide, by decide⟩ (fun r1 M1 q1 => ?_)
      obtain ⟨b1, b2, b3⟩ := q1
      refine wp_icmp_eq (pc := 803) 931 dL_law_803 (by decide) (fun h803 => ?_) (fun h803 => ?_)
      · exact cont _ _ (h.go a2 a3 b2 b3 (h.2.2.1.up (Nat.le_succ B)) rfl)
      · exact absurd (a1.trans b1.symm) h803
    · exact absurd hx3 h792
  · obtain ⟨u, hu⟩ : ∃ u, u = true := ⟨_, rfl⟩
    have hx3 := h765
    refine wp_ic (pc := 768) (x := nI 1) dL_law_768 ic_1 ?_
    refine wp_goto (pc := 769) 773 dL_law_769 (by decide) ?_
    refine wp_top (b2i u) (by rw [hu]; rfl) ?_
    refine wf_callVi (pc := 773) dL_law_773 cl_L_110 (c_chance (u := u) h.1 h.2.2.1 hB) lk_0 rfl rfl rfl rfl (Nat.le_of_ble_eq_true rfl) (by decide) ⟨by decide, by decide⟩ (fun r0 M0 q0 => ?_)
    obtain ⟨a1, a2, a3⟩ := q0
    have hm := h.mid a2 a3
    refine wp_aload_n (pc := 776) dL_law_776 rfl ?_
    refine wp_aload_n (pc := 777) dL_law_777 rfl ?_
    refine wp_iload_n (pc := 778) dL_law_778 rfl ?_
    refine wp_ic (pc := 779) (x := nI 1) dL_law_779 ic_1 ?_
    refine wp_iadd (pc := 780) dL_law_780 ?_
    refine wp_top (nI (i + 1)) (nI_add _ _) ?_
    refine ws_at (pc := 781) hX hbl hbK hL dL_law_781 (show i + 1 < L by omega) ?_
    refine wp_aload_n (pc := 782) dL_law_782 rfl ?_
    refine wp_iload_n (pc := 783) dL_law_783 rfl ?_
    refine wp_ic (pc := 784) (x := nI 2) dL_law_784 ic_2 ?_
    refine wp_iadd (pc := 785) dL_law_785 ?_
    refine wp_top (nI (i + 2)) (nI_add _ _) ?_
    refine ws_at (pc := 786) hX hbl hbK hL dL_law_786 (show i + 2 < L by omega) ?_
    refine wp_aload_n (pc := 787) dL_law_787 rfl ?_
    refine wp_iload_n (pc := 788) dL_law_788 rfl ?_
    refine wp_ic (pc := 789) (x := nI 3) dL_law_789 ic_3 ?_
    refine wp_iadd (pc := 790) dL_law_790 ?_
    refine wp_top (nI (i + 3)) (nI_add _ _) ?_
    refine ws_at (pc := 791) hX hbl hbK hL dL_law_791 (show i + 3 < L by omega) ?_
    refine wp_if_eq (pc := 792) 799 dL_law_792 (by decide) (fun h792 => ?_) (fun h792 => ?_)
    · exact absurd h792 hx3
    · refine wp_ic (pc := 795) (x := nI 1) dL_law_795 ic_1 ?_
      refine wp_goto (pc := 796) 800 dL_law_796 (by decide) ?_
      refine wp_top (b2i u) (by rw [hu]; rfl) ?_
      refine wf_callVi (pc := 800) dL_law_800 cl_L_114 (cR_chance (u := u) hm h.2.2.1 hB) lk_150 rfl rfl rfl rfl (Nat.le_of_ble_eq_true rfl) (by decide) ⟨by decide, by decide⟩ (fun r1 M1 q1 => ?_)
      obtain ⟨b1, b2, b3⟩ := q1
      refine wp_icmp_eq (pc := 803) 931 dL_law_803 (by decide) (fun h803 => ?_) (fun h803 => ?_)
      · exact cont _ _ (h.go a2 a3 b2 b3 (h.2.2.1.up (Nat.le_succ B)) rfl)
      · exact absurd (a1.trans b1.symm) h803
theorem law_seed {E : EnvT} {K : CtxT} {Z : State → Prop} {b L : Nat} {xs : Nat → Int32} (hX : va_X b L xs (es E) (es E).heap) (hbl : b < (es E).heap.size) (hbK : b < K.1) (hL : L ≤ 2560) {i B : Nat} {s : Sv} {M : Mm} (h : ST B s M) (hB : B ≤ 9999) (hi : i + 5 ≤ L) (cont : ∀ s' M', ST (B + 1) s' M' → Wp E K mL_law 12 (600000, 7302250) 931 [some (.ref b), some (.ref (K.1 + 0)), some (.ref (K.1 + 150)), some (.int (nI i))] [] 168 M' 168 1456 Z) : Wp E K mL_law 12 (600000, 7302250) 808 [some (.ref b), some (.ref (K.1 + 0)), some (.ref (K.1 + 150)), some (.int (nI i))] [] 168 M 168 1456 Z := by
  refine wp_aload_n (pc := 808) dL_law_808 rfl ?_
  refine wp_aload_n (pc := 809) dL_law_809 rfl ?_
  refine wp_iload_n (pc := 810) dL_law_810 rfl ?_
  refine wp_ic (pc := 811) (x := nI 1) dL_law_811 ic_1 ?_
  refine wp_iadd (pc := 812) dL_law_812 ?_
  refine wp_top (nI (i + 1)) (nI_add _ _) ?_
  refine ws_at (pc := 813) hX hbl hbK hL dL_law_813 (show i + 1 < L by omega) ?_
  refine wp_i2l (pc := 814) dL_law_814 ?_
  refine wp_bipush (pc := 815) (x := nI 32) dL_law_815 bp_32 ?_
  refine wp_lshl (pc := 817) dL_law_817 ?_
  refine wp_aload_n (pc := 818) dL_law_818 rfl ?_
  refine wp_iload_n (pc := 819) dL_law_819 rfl ?_
  refine wp_ic (pc := 820) (x := nI 2) dL_law_820 ic_2 ?_
  refine wp_iadd (pc := 821) dL_law_821 ?_
  refine wp_top (nI (i + 2)) (nI_add _ _) ?_
  refine ws_at (pc := 822) hX hbl hbK hL dL_law_822 (show i + 2 < L by omega) ?_
  refine wp_i2l (pc := 823) dL_law_823 ?_
  refine wp_ldc2 (pc := 824) dL_law_824 kc_L_115 ?_
  refine wp_land (pc := 827) dL_law_827 ?_
  refine wp_lor (pc := 828) dL_law_828 ?_
  refine wf_callVl (pc := 829) dL_law_829 cl_L_117 (c_seed h.1 h.2.2.1 hB) lk_0 rfl rfl rfl rfl (Nat.le_of_ble_eq_true rfl) (by decide) ⟨by decide, by decide⟩ (fun r0 M0 q0 => ?_)
  obtain ⟨a1, a2, a3⟩ := q0
  have hm := h.mid a2 a3
  refine wp_aload_n (pc := 832) dL_law_832 rfl ?_
  refine wp_aload_n (pc := 833) dL_law_833 rfl ?_
  refine wp_iload_n (pc := 834) dL_law_834 rfl ?_
  refine wp_ic (pc := 835) (x := nI 1) dL_law_835 ic_1 ?_
  refine wp_iadd (pc := 836) dL_law_836 ?_
  refine wp_top (nI (i + 1)) (nI_add _ _) ?_
  refine ws_at (pc := 837) hX hbl hbK hL dL_law_837 (show i + 1 < L by omega) ?_
  refine wp_i2l (pc := 838) dL_law_838 ?_
  refine wp_bipush (pc := 839) (x := nI 32) dL_law_839 bp_32 ?_
  refine wp_lshl (pc := 841) dL_law_841 ?_
  refine wp_aload_n (pc := 842) dL_law_842 rfl ?_
  refine wp_iload_n (pc := 843) dL_law_843 rfl ?_
  refine wp_ic (pc := 844) (x := nI 2) dL_law_844 ic_2 ?_
  refine wp_iadd (pc := 845) dL_law_845 ?_
  refine wp_top (nI (i + 2)) (nI_add _ _) ?_
  refine ws_at (pc := 846) hX hbl hbK hL dL_law_846 (show i + 2 < L by omega) ?_
  refine wp_i2l (pc := 847) dL_law_847 ?_
  refine wp_ldc2 (pc := 848) dL_law_848 kc_L_115 ?_
  refine wp_land (pc := 851) dL_law_851 ?_
  refine wp_lor (pc := 852) dL_law_852 ?_
  refine wf_callVl (pc := 853) dL_law_853 cl_L_121 (cm_seed hm h.2.2.1 hB) lk_150 rfl rfl rfl rfl (Nat.le_of_ble_eq_true rfl) (by decide) ⟨by decide, by decide⟩ (fun r1 M1 q1 => ?_)
  obtain ⟨b1, b2, b3⟩ := q1
  refine wp_lcmp (pc := 856) dL_law_856 ?_
  refine wp_if_eq (pc := 857) 931 dL_law_857 (by decide) (fun h857 => ?_) (fun h857 => ?_)
  · exact cont _ _ (h.go a2 a3 b2 b3 ((OkV.sd h.2.2.1 _).up (Nat.le_succ B)) rfl)
  · exact absurd (by rw [a1, b1]; exact lcmp_self _) h857
theorem law_days {E : EnvT} {K : CtxT} {Z : State → Prop} {b L : Nat} {xs : Nat → Int32} (hX : va_X b L xs (es E) (es E).heap) (hbl : b < (es E).heap.size) (hbK : b < K.1) (hL : L ≤ 2560) {i B : Nat} {s : Sv} {M : Mm} (h : ST B s M) (hB : B ≤ 9999) (hi : i + 5 ≤ L) (cont : ∀ s' M', ST (B + 1) s' M' → Wp E K mL_law 12 (600000, 7302250) 931 [some (.ref b), some (.ref (K.1 + 0)), some (.ref (K.1 + 150)), some (.int (nI i))] [] 168 M' 168 1456 Z) : Wp E K mL_law 12 (600000, 7302250) 862 [some (.ref b), some (.ref (K.1 + 0)), some (.ref (K.1 + 150)), some (.int (nI i))] [] 168 M 168 1456 Z := by
  refine wp_aload_n (pc := 862) dL_law_862 rfl ?_
  refine wp_aload_n (pc := 863) dL_law_863 rfl ?_
  refine wp_iload_n (pc := 864) dL_law_864 rfl ?_
  refine wp_ic (pc := 865) (x := nI 1) dL_law_865 ic_1 ?_
  refine wp_iadd (pc := 866) dL_law_866 ?_
  refine wp_top (nI (i + 1)) (nI_add _ _) ?_
  refine ws_at (pc := 867) hX hbl hbK hL dL_law_867 (show i + 1 < L by omega) ?_
  refine wf_callVi (pc := 868) dL_law_868 cl_L_122 (c_days h.1 h.2.2.1 hB) lk_0 rfl rfl rfl rfl (Nat.le_of_ble_eq_true rfl) (by decide) ⟨by decide, by decide⟩ (fun r0 M0 q0 => ?_)
  obtain ⟨a1, a2, a3⟩ := q0
  have hm := h.mid a2 a3
  refine wp_aload_n (pc := 871) dL_law_871 rfl ?_
  refine wp_aload_n (pc := 872) dL_law_872 rfl ?_
  refine wp_iload_n (pc := 873) dL_law_873 rfl ?_
  refine wp_ic (pc := 874) (x := nI 1) dL_law_874 ic_1 ?_
  refine wp_iadd (pc := 875) dL_law_875 ?_
  refine wp_top (nI (i + 1)) (nI_add _ _) ?_
  refine ws_at (pc := 876) hX hbl hbK hL dL_law_876 (show i + 1 < L by omega) ?_
  refine wf_callVi (pc := 877) dL_law_877 cl_L_125 (cR_days hm h.2.2.1 hB) lk_150 rfl rfl rfl rfl (Nat.le_of_ble_eq_true rfl) (by decide) ⟨by decide, by decide⟩ (fun r1 M1 q1 => ?_)
  obtain ⟨b1, b2, b3⟩ := q1
  refine wp_icmp_eq (pc := 880) 931 dL_law_880 (by decide) (fun h880 => ?_) (fun h880 => ?_)
  · exact cont _ _ (h.go a2 a3 b2 b3 ((OkV.days h.2.2.1 _).up (Nat.le_succ B)) (by unfold oDays; repeat' (first | rfl | split)))
  · exact absurd (a1.trans b1.symm) h880
theorem law_keep {E : EnvT} {K : CtxT} {Z : State → Prop} {b L : Nat} {xs : Nat → Int32} (hX : va_X b L xs (es E) (es E).heap) (hbl : b < (es E).heap.size) (hbK : b < K.1) (hL : L ≤ 2560) {i B : Nat} {s : Sv} {M : Mm} (h : ST B s M) (hB : B ≤ 9999) (hi : i + 5 ≤ L) (cont : ∀ s' M', ST (B + 1) s' M' → Wp E K mL_law 12 (600000, 7302250) 931 [some (.ref b), some (.ref (K.1 + 0)), some (.ref (K.1 + 150)), some (.int (nI i))] [] 168 M' 168 1456 Z) : Wp E K mL_law 12 (600000, 7302250) 885 [some (.ref b), some (.ref (K.1 + 0)), some (.ref (K.1 + 150)), some (.int (nI i))] [] 168 M 168 1456 Z := by
  refine wp_aload_n (pc := 885) dL_law_885 rfl ?_
  refine wp_aload_n (pc := 886) dL_law_886 rfl ?_
  refine wp_iload_n (pc := 887) dL_law_887 rfl ?_
  refine wp_ic (pc := 888) (x := nI 1) dL_law_888 ic_1 ?_
  refine wp_iadd (pc := 889) dL_law_889 ?_
  refine wp_top (nI (i + 1)) (nI_add _ _) ?_
  refine ws_at (pc := 890) hX hbl hbK hL dL_law_890 (show i + 1 < L by omega) ?_
  refine wf_callVi (pc := 891) dL_law_891 cl_L_126 (c_keep h.1 h.2.2.1 hB) lk_0 rfl rfl rfl rfl (Nat.le_of_ble_eq_true rfl) (by decide) ⟨by decide, by decide⟩ (fun r0 M0 q0 => ?_)
  obtain ⟨a1, a2, a3⟩ := q0
  have hm := h.mid a2 a3
  refine wp_aload_n (pc := 894) dL_law_894 rfl ?_
  refine wp_aload_n (pc := 895) dL_law_895 rfl ?_
  refine wp_iload_n (pc := 896) dL_law_896 rfl ?_
  refine wp_ic (pc := 897) (x := nI 1) dL_law_897 ic_1 ?_
  refine wp_iadd (pc := 898) dL_law_898 ?_
  refine wp_top (nI (i + 1)) (nI_add _ _) ?_
  refine ws_at (pc := 899) hX hbl hbK hL dL_law_899 (show i + 1 < L by omega) ?_
  refine wf_callVi (pc := 900) dL_law_900 cl_L_129 (cR_keep hm h.2.2.1 hB) lk_150 rfl rfl rfl rfl (Nat.le_of_ble_eq_true rfl) (by decide) ⟨by decide, by decide⟩ (fun r1 M1 q1 => ?_)
  obtain ⟨b1, b2, b3⟩ := q1
  refine wp_icmp_eq (pc := 903) 931 dL_law_903 (by decide) (fun h903 => ?_) (fun h903 => ?_)
  · exact cont _ _ (h.go a2 a3 b2 b3 ((OkV.keep h.2.2.1 _).up (Nat.le_succ B)) (by unfold oKeep; repeat' (first | rfl | split)))
  · exact absurd (a1.trans b1.symm) h903
theorem law_again {E : EnvT} {K : CtxT} {Z : State → Prop} {b L : Nat} {xs : Nat → Int32} (hX : va_X b L xs (es E) (es E).heap) (hbl : b < (es E).heap.size) (hbK : b < K.1) (hL : L ≤ 2560) {i B : Nat} {s : Sv} {M : Mm} (h : ST B s M) (hB : B ≤ 9999) (hi : i + 5 ≤ L) (cont : ∀ s' M', ST (B + 1) s' M' → Wp E K mL_law 12 (600000, 7302250) 931 [some (.ref b), some (.ref (K.1 + 0)), some (.ref (K.1 + 150)), some (.int (nI i))] [] 168 M' 168 1456 Z) : Wp E K mL_law 12 (600000, 7302250) 908 [some (.ref b), some (.ref (K.1 + 0)), some (.ref (K.1 + 150)), some (.int (nI i))] [] 168 M 168 1456 Z := by
  refine wp_aload_n (pc := 908) dL_law_908 rfl ?_
  refine wp_aload_n (pc := 909) dL_law_909 rfl ?_
  refine wp_iload_n (pc := 910) dL_law_910 rfl ?_
  refine wp_ic (pc := 911) (x := nI 1) dL_law_911 ic_1 ?_
  refine wp_iadd (pc := 912) dL_law_912 ?_
  refine wp_top (nI (i + 1)) (nI_add _ _) ?_
  refine ws_at (pc := 913) hX hbl hbK hL dL_law_913 (show i + 1 < L by omega) ?_
  refine wf_callVi (pc := 914) dL_law_914 cl_L_130 (c_again h.1 h.2.2.1 hB) lk_0 rfl rfl rfl rfl (Nat.le_of_ble_eq_true rfl) (by decide) ⟨by decide, by decide⟩ (fun r0 M0 q0 => ?_)
  obtain ⟨a1, a2, a3⟩ := q0
  have hm := h.mid a2 a3
  refine wp_aload_n (pc := 917) dL_law_917 rfl ?_
  refine wp_aload_n (pc := 918) dL_law_918 rfl ?_
  refine wp_iload_n (pc := 919) dL_law_919 rfl ?_
  refine wp_ic (pc := 920) (x := nI 1) dL_law_920 ic_1 ?_
  refine wp_iadd (pc := 921) dL_law_921 ?_
  refine wp_top (nI (i + 1)) (nI_add _ _) ?_
  refine ws_at (pc := 922) hX hbl hbK hL dL_law_922 (show i + 1 < L by omega) ?_
  refine wf_callVi (pc := 923) dL_law_923 cl_L_133 (cm_again hm h.2.2.1 hB) lk_150 rfl rfl rfl rfl (Nat.le_of_ble_eq_true rfl) (by decide) ⟨by decide, by decide⟩ (fun r1 M1 q1 => ?_)
  obtain ⟨b1, b2, b3⟩ := q1
  refine wp_icmp_eq (pc := 926) 931 dL_law_926 (by decide) (fun h926 => ?_) (fun h926 => ?_)
  · exact cont _ _ (h.go a2 a3 b2 b3 ((OkV.again h.2.2.1 hB _).up (Nat.le_succ B)) (again_law s _))
  · exact absurd (a1.trans b1.symm) h926
