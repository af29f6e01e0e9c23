def STP (M : Mm) (S : Nat → Nat) : Prop := ∀ x, x < 4 → M.1 166 x = nI (S x)
theorem STP.w {M : Mm} {S : Nat → Nat} (h : STP M S) (k v : Nat) : STP (wI M 166 k (nI v)) (setN S k v) := fun x hx => by
  unfold setN
  by_cases e : x = k
  · subst e; rw [wI_at, if_pos rfl]
  · rw [wI_nk e, if_neg e]; exact h x hx
theorem mn_y {a b : Nat} (h : a + 1 < b) : nI (a + 1) = nI (mnN a b) := by unfold mnN; rw [if_pos h]
theorem mn_n {a b : Nat} (h : ¬ a + 1 < b) : nI b = nI (mnN a b) := by unfold mnN; rw [if_neg h]
theorem mn_le (a b : Nat) (hb : b ≤ 9999) : mnN a b ≤ 9999 := by unfold mnN; split <;> omega
theorem cm_heir {l : Launch} {K : CtxT} {M : Mm} {s : Sv} {B : Nat} (H : XM M s) (V : OkV B s) (hB : B ≤ 9999) (hA : AcL s.Λ) {y : Int32} : Ci l K 2 mX9_heir [.ref (K.1 + 150), .int y] M (fun r M' => r = oHeir s y ∧ XM M' s ∧ Fm M M') := by
  refine ci_of (L := [some (.ref (K.1 + 150)), some (.int y), none, none, none]) (by decide +kernel) (Nat.le_of_ble_eq_true rfl) rfl rfl (fun E => ?_)
  have hD := V.l.1
  have fin : ∀ d, d < lD s.Λ → ∀ (M1 : Mm) (S : Nat → Nat), XM M1 s → Fm M M1 → STP M1 S → (∀ x, x < lD s.Λ → S x = dsN s.Λ d x) → ∀ (q k : Nat) (z4 : Option Value), q = lD s.Λ - k → k ≤ lD s.Λ → Wp E K mX9_heir 2 (0, 0) 184 [some (.ref (K.1 + 150)), some (.int (nI d)), some (.int (nv (heirN s.Λ d k))), some (.int (nI k)), z4] [] 168 M1 0 0 (zI E K (fun r M' => r = oHeir s (nI d) ∧ XM M' s ∧ Fm M M')) := by
    intro d hd M1 S H F hS hds q
    induction q with
    | zero =>
      intro k z4 hq hk
      refine wp_iload_n (pc := 184) dX9_heir_184 rfl ?_
      refine wp_aload_n (pc := 185) dX9_heir_185 rfl ?_
      refine wf_getI (pc := 186) dX9_heir_186 fl_X9_69 lk_150 ?_
      rw [H.w.1]
      refine wp_icmp_ge (pc := 189) 292 dX9_heir_189 (by decide) (fun h189 => ?_) (fun h189 => ?_)
      · refine wp_iload_n (pc := 292) dX9_heir_292 rfl ?_
        refine wf_iret (pc := 293) dX9_heir_293 rfl ?_
        refine ⟨?_, H, F⟩
        unfold oHeir
        rw [if_pos (inD_nI (by omega) hd), nI_cl (by omega), show k = lD s.Λ by omega]
      · exact absurd (nI_le (by omega) (by omega)) h189
    | succ q ih =>
      intro k z4 hq hk
      have hSk := hS k (by omega)
      have hdk := hds k (by omega)
      have hle := dsN_le s.Λ d k
      rw [hdk] at hSk
      obtain ⟨rk, rk9, erk⟩ := (V.l.2.2.2.2.1 k (by omega)).1
      have hg := heir_dg s.Λ d k
      obtain ⟨f, hf⟩ : ∃ f, heirN s.Λ d k = f := ⟨_, rfl⟩
      have ihk := fun z => ih (k + 1) z (by omega) (by omega)
      refine wp_iload_n (pc := 184) dX9_heir_184 rfl ?_
      refine wp_aload_n (pc := 185) dX9_heir_185 rfl ?_
      refine wf_getI (pc := 186) dX9_heir_186 fl_X9_69 lk_150 ?_
      rw [H.w.1]
      refine wp_icmp_ge (pc := 189) 292 dX9_heir_189 (by decide) (fun h189 => ?_) (fun h189 => ?_)
      · exact absurd h189 (nI_ge (by omega) (by omega))
      · refine wp_iload_n (pc := 192) dX9_heir_192 rfl ?_
        refine wp_iload_n (pc := 193) dX9_heir_193 rfl ?_
        refine wp_icmp_eq (pc := 194) 286 dX9_heir_194 (by decide) (fun h194 => ?_) (fun h194 => ?_)
        · have en : (heirN s.Λ d (k + 1)) = (heirN s.Λ d k) := heir_n (fun w => w.1 ((nI_eq (by omega) (by omega)).mp h194))
          first | (exact absurd h277 (by decide); done) | ((refine wp_iinc1 (pc := 286) (L' := [_, _, _, _, _]) dX9_heir_286 rfl rfl rfl ?_); (refine wp_goto (pc := 289) 184 dX9_heir_289 (by decide) ?_); (rw [en] at ihk); (first | exact ihk _ | (rw [nv_n (by omega)] at ihk; exact ihk _)))
        · have hkd : k ≠ d := fun q => h194 (by rw [q])
          refine wp_aload_n (pc := 197) dX9_heir_197 rfl ?_
          refine wf_getR (pc := 198) dX9_heir_198 fl_X9_60 lk_150 (H.r 150 27 166 rfl) ?_
          refine wp_iload_n (pc := 201) dX9_heir_201 rfl ?_
          refine wf_iald (pc := 202) (j := k) dX9_heir_202 lk_166 rfl (by omega) ?_
          rw [hSk]
          refine wp_sipush (pc := 203) (x := nI 9999) dX9_heir_203 sp_9999 ?_
          refine wp_icmp_ge (pc := 206) 286 dX9_heir_206 (by decide) (fun h206 => ?_) (fun h206 => ?_)
          · have hd9 : dgO (pq (lPa s.Λ)) (lD s.Λ) 4 0 d k = 9 := by
              apply Classical.byContradiction
              intro w
              have w8 := dg_le8 s.Λ d k w
              have : dsN s.Λ d k = dgO (pq (lPa s.Λ)) (lD s.Λ) 4 0 d k := if_neg w
              exact absurd h206 (nI_ge (by omega) (by omega))
            have en : (heirN s.Λ d (k + 1)) = (heirN s.Λ d k) := heir_n (fun w => w.2.1 hd9)
            first | (exact absurd h277 (by decide); done) | ((refine wp_iinc1 (pc := 286) (L' := [_, _, _, _, _]) dX9_heir_286 rfl rfl rfl ?_); (refine wp_goto (pc := 289) 184 dX9_heir_289 (by decide) ?_); (rw [en] at ihk); (first | exact ihk _ | (rw [nv_n (by omega)] at ihk; exact ihk _)))
          · have hd9 : dgO (pq (lPa s.Λ)) (lD s.Λ) 4 0 d k ≠ 9 := fun w => by
              have : dsN s.Λ d k = 9999 := if_pos w
              exact absurd (nI_le (show 9999 ≤ dsN s.Λ d k by omega) (by omega)) h206
            refine wp_iload_n (pc := 209) dX9_heir_209 rfl ?_
            refine wp_bipush (pc := 210) (x := (-9)) dX9_heir_210 bp_m9 ?_
            refine wp_icmp_eq (pc := 212) 268 dX9_heir_212 (by decide) (fun h212 => ?_) (fun h212 => ?_)
            · have e9 : heirN s.Λ d k = 9 := (nv_is9 (by omega)).mp h212
              have en : (heirN s.Λ d (k + 1)) = k := heir_y hkd hd9 (by rw [e9]; unfold inhB; rw [decide_eq_false (show ¬ 9 < lD s.Λ by omega)]; rfl)
              refine wp_ic (pc := 268) (x := nI 1) dX9_heir_268 ic_1 ?_
              refine wp_goto (pc := 269) 273 dX9_heir_269 (by decide) ?_
              refine wp_istore (pc := 273) (L' := [_, _, _, _, _]) dX9_heir_273 (Nat.le_of_ble_eq_true rfl) rfl rfl ?_
              refine wp_iload (pc := 275) dX9_heir_275 rfl ?_
              refine wp_if_eq (pc := 277) 284 dX9_heir_277 (by decide) (fun h277 => ?_) (fun h277 => ?_)
              · refine wp_iload_n (pc := 284) dX9_heir_284 rfl ?_
                refine wp_istore_n (pc := 285) (L' := [_, _, _, _, _]) dX9_heir_285 (Nat.le_of_ble_eq_true rfl) rfl rfl ?_
                first | (exact absurd h277 (by decide); done) | ((refine wp_iinc1 (pc := 286) (L' := [_, _, _, _, _]) dX9_heir_286 rfl rfl rfl ?_); (refine wp_goto (pc := 289) 184 dX9_heir_289 (by decide) ?_); (rw [en] at ihk); (first | exact ihk _ | (rw [nv_n (by omega)] at ihk; exact ihk _)))
              · refine wp_iload_n (pc := 280) dX9_heir_280 rfl ?_
                refine wp_goto (pc := 281) 285 dX9_heir_281 (by decide) ?_
                refine wp_istore_n (pc := 285) (L' := [_, _, _, _, _]) dX9_heir_285 (Nat.le_of_ble_eq_true rfl) rfl rfl ?_
                first | (exact absurd h277 (by decide); done) | ((refine wp_iinc1 (pc := 286) (L' := [_, _, _, _, _]) dX9_heir_286 rfl rfl rfl ?_); (refine wp_goto (pc := 289) 184 dX9_heir_289 (by decide) ?_); (rw [en] at ihk); (first | exact ihk _ | (rw [nv_n (by omega)] at ihk; exact ihk _)))
            · have e9 : heirN s.Λ d k ≠ 9 := fun q => h212 (by rw [q]; rfl)
              rw [nv_n e9]
              obtain ⟨g1, g2⟩ : heirN s.Λ d k < k ∧ dgO (pq (lPa s.Λ)) (lD s.Λ) 4 0 d (heirN s.Λ d k) ≠ 9 := by
                rcases hg with w | w
                · exact absurd w e9
                · exact w
              rw [hf] at g1 g2
              rw [hf]
              have hSf := hS f (by omega)
              rw [hds f (by omega)] at hSf
              have hlf := dsN_le s.Λ d f
              obtain ⟨rf, rf9, erf⟩ := (V.l.2.2.2.2.1 f (by omega)).1
              have ii := inh_iff (o := k) (show f < lD s.Λ by omega) g2 hd9
              rw [erk, erf, nI_ltI (by omega) (by omega)] at ii
              refine wp_aload_n (pc := 215) dX9_heir_215 rfl ?_
              refine wf_getR (pc := 216) dX9_heir_216 fl_X9_60 lk_150 (H.r 150 27 166 rfl) ?_
              refine wp_iload_n (pc := 219) dX9_heir_219 rfl ?_
              refine wf_iald (pc := 220) (j := k) dX9_heir_220 lk_166 rfl (by omega) ?_
              rw [hSk]
              refine wp_aload_n (pc := 221) dX9_heir_221 rfl ?_
              refine wf_getR (pc := 222) dX9_heir_222 fl_X9_60 lk_150 (H.r 150 27 166 rfl) ?_
              refine wp_iload_n (pc := 225) dX9_heir_225 rfl ?_
              refine wf_iald (pc := 226) (j := f) dX9_heir_226 lk_166 rfl (by omega) ?_
              rw [hSf]
              refine wp_icmp_lt (pc := 227) 268 dX9_heir_227 (by decide) (fun h227 => ?_) (fun h227 => ?_)
              · have w1 : dsN s.Λ d k < dsN s.Λ d f := (nI_ltI (by omega) (by omega)).mp h227
                have en : (heirN s.Λ d (k + 1)) = k := heir_y hkd hd9 (by rw [hf]; exact ii.mpr (Or.inl w1))
                refine wp_ic (pc := 268) (x := nI 1) dX9_heir_268 ic_1 ?_
                refine wp_goto (pc := 269) 273 dX9_heir_269 (by decide) ?_
                refine wp_istore (pc := 273) (L' := [_, _, _, _, _]) dX9_heir_273 (Nat.le_of_ble_eq_true rfl) rfl rfl ?_
                refine wp_iload (pc := 275) dX9_heir_275 rfl ?_
                refine wp_if_eq (pc := 277) 284 dX9_heir_277 (by decide) (fun h277 => ?_) (fun h277 => ?_)
                · refine wp_iload_n (pc := 284) dX9_heir_284 rfl ?_
                  refine wp_istore_n (pc := 285) (L' := [_, _, _, _, _]) dX9_heir_285 (Nat.le_of_ble_eq_true rfl) rfl rfl ?_
                  first | (exact absurd h277 (by decide); done) | ((refine wp_iinc1 (pc := 286) (L' := [_, _, _, _, _]) dX9_heir_286 rfl rfl rfl ?_); (refine wp_goto (pc := 289) 184 dX9_heir_289 (by decide) ?_); (rw [en] at ihk); (first | exact ihk _ | (rw [nv_n (by omega)] at ihk; exact ihk _)))
                · refine wp_iload_n (pc := 280) dX9_heir_280 rfl ?_
                  refine wp_goto (pc := 281) 285 dX9_heir_281 (by decide) ?_
                  refine wp_istore_n (pc := 285) (L' := [_, _, _, _, _]) dX9_heir_285 (Nat.le_of_ble_eq_true rfl) rfl rfl ?_
                  first | (exact absurd h277 (by decide); done) | ((refine wp_iinc1 (pc := 286) (L' := [_, _, _, _, _]) dX9_heir_286 rfl rfl rfl ?_); (refine wp_goto (pc := 289) 184 dX9_heir_289 (by decide) ?_); (rw [en] at ihk); (first | exact ihk _ | (rw [nv_n (by omega)] at ihk; exact ihk _)))
              · have w1 : ¬ dsN s.Λ d k < dsN s.Λ d f := fun q => h227 (nI_lt q (by omega))
                refine wp_aload_n (pc := 230) dX9_heir_230 rfl ?_
                refine wf_getR (pc := 231) dX9_heir_231 fl_X9_60 lk_150 (H.r 150 27 166 rfl) ?_
                refine wp_iload_n (pc := 234) dX9_heir_234 rfl ?_
                refine wf_iald (pc := 235) (j := k) dX9_heir_235 lk_166 rfl (by omega) ?_
                rw [hSk]
                refine wp_aload_n (pc := 236) dX9_heir_236 rfl ?_
                refine wf_getR (pc := 237) dX9_heir_237 fl_X9_60 lk_150 (H.r 150 27 166 rfl) ?_
                refine wp_iload_n (pc := 240) dX9_heir_240 rfl ?_
                refine wf_iald (pc := 241) (j := f) dX9_heir_241 lk_166 rfl (by omega) ?_
                rw [hSf]
                refine wp_icmp_ne (pc := 242) 272 dX9_heir_242 (by decide) (fun h242 => ?_) (fun h242 => ?_)
                · have w2 : ¬ dsN s.Λ d k = dsN s.Λ d f := fun q => h242 (by rw [q])
                  have en : (heirN s.Λ d (k + 1)) = f := by rw [heir_n (fun w => by have := w.2.2; rw [hf] at this; rcases ii.mp this with q | q; exact w1 q; exact w2 q.1)]; exact hf
                  refine wp_ic (pc := 272) (x := nI 0) dX9_heir_272 ic_0 ?_
                  refine wp_istore (pc := 273) (L' := [_, _, _, _, _]) dX9_heir_273 (Nat.le_of_ble_eq_true rfl) rfl rfl ?_
                  refine wp_iload (pc := 275) dX9_heir_275 rfl ?_
                  refine wp_if_eq (pc := 277) 284 dX9_heir_277 (by decide) (fun h277 => ?_) (fun h277 => ?_)
                  · refine wp_iload_n (pc := 284) dX9_heir_284 rfl ?_
                    refine wp_istore_n (pc := 285) (L' := [_, _, _, _, _]) dX9_heir_285 (Nat.le_of_ble_eq_true rfl) rfl rfl ?_
                    first | (exact absurd h277 (by decide); done) | ((refine wp_iinc1 (pc := 286) (L' := [_, _, _, _, _]) dX9_heir_286 rfl rfl rfl ?_); (refine wp_goto (pc := 289) 184 dX9_heir_289 (by decide) ?_); (rw [en] at ihk); (first | exact ihk _ | (rw [nv_n (by omega)] at ihk; exact ihk _)))
                  · refine wp_iload_n (pc := 280) dX9_heir_280 rfl ?_
                    refine wp_goto (pc := 281) 285 dX9_heir_281 (by decide) ?_
                    refine wp_istore_n (pc := 285) (L' := [_, _, _, _, _]) dX9_heir_285 (Nat.le_of_ble_eq_true rfl) rfl rfl ?_
                    first | (exact absurd h277 (by decide); done) | ((refine wp_iinc1 (pc := 286) (L' := [_, _, _, _, _]) dX9_heir_286 rfl rfl rfl ?_); (refine wp_goto (pc := 289) 184 dX9_heir_289 (by decide) ?_); (rw [en] at ihk); (first | exact ihk _ | (rw [nv_n (by omega)] at ihk; exact ihk _)))
                · have w2 : dsN s.Λ d k = dsN s.Λ d f := (nI_eq (by omega) (by omega)).mp h242
                  refine wp_aload_n (pc := 245) dX9_heir_245 rfl ?_
                  refine wf_getR (pc := 246) dX9_heir_246 fl_X9_20 lk_150 (H.r 150 8 153 rfl) ?_
                  refine wp_ic (pc := 249) (x := nI 4) dX9_heir_249 ic_4 ?_
                  refine wp_iload_n (pc := 250) dX9_heir_250 rfl ?_
                  refine wp_imul (pc := 251) dX9_heir_251 ?_
                  refine wp_ic (pc := 252) (x := nI 1) dX9_heir_252 ic_1 ?_
                  refine wp_iadd (pc := 253) dX9_heir_253 ?_
                  refine wf_iald (pc := 254) (j := (4 * k + 1)) dX9_heir_254 lk_153 (by rw [pk_mul, nI_add]) (by omega) ?_
                  rw [show M1.1 153 (4 * k + 1) = nI rk from (H.w.2.2.2.2.1 k (by omega)).1.trans erk]
                  refine wp_aload_n (pc := 255) dX9_heir_255 rfl ?_
                  refine wf_getR (pc := 256) dX9_heir_256 fl_X9_20 lk_150 (H.r 150 8 153 rfl) ?_
                  refine wp_ic (pc := 259) (x := nI 4) dX9_heir_259 ic_4 ?_
                  refine wp_iload_n (pc := 260) dX9_heir_260 rfl ?_
                  refine wp_imul (pc := 261) dX9_heir_261 ?_
                  refine wp_ic (pc := 262) (x := nI 1) dX9_heir_262 ic_1 ?_
                  refine wp_iadd (pc := 263) dX9_heir_263 ?_
                  refine wf_iald (pc := 264) (j := (4 * f + 1)) dX9_heir_264 lk_153 (by rw [pk_mul, nI_add]) (by omega) ?_
                  rw [show M1.1 153 (4 * f + 1) = nI rf from (H.w.2.2.2.2.1 f (by omega)).1.trans erf]
                  refine wp_icmp_le (pc := 265) 272 dX9_heir_265 (by decide) (fun h265 => ?_) (fun h265 => ?_)
                  · have w3 : ¬ rf < rk := fun q => absurd (nI_lt q (by omega)) (Int32.not_lt.mpr h265)
                    have en : (heirN s.Λ d (k + 1)) = f := by rw [heir_n (fun w => by have := w.2.2; rw [hf] at this; rcases ii.mp this with q | q; exact w1 q; exact w3 q.2)]; exact hf
                    refine wp_ic (pc := 272) (x := nI 0) dX9_heir_272 ic_0 ?_
                    refine wp_istore (pc := 273) (L' := [_, _, _, _, _]) dX9_heir_273 (Nat.le_of_ble_eq_true rfl) rfl rfl ?_
                    refine wp_iload (pc := 275) dX9_heir_275 rfl ?_
                    refine wp_if_eq (pc := 277) 284 dX9_heir_277 (by decide) (fun h277 => ?_) (fun h277 => ?_)
                    · refine wp_iload_n (pc := 284) dX9_heir_284 rfl ?_
                      refine wp_istore_n (pc := 285) (L' := [_, _, _, _, _]) dX9_heir_285 (Nat.le_of_ble_eq_true rfl) rfl rfl ?_
                      first | (exact absurd h277 (by decide); done) | ((refine wp_iinc1 (pc := 286) (L' := [_, _, _, _, _]) dX9_heir_286 rfl rfl rfl ?_); (refine wp_goto (pc := 289) 184 dX9_heir_289 (by decide) ?_); (rw [en] at ihk); (first | exact ihk _ | (rw [nv_n (by omega)] at ihk; exact ihk _)))
                    · refine wp_iload_n (pc := 280) dX9_heir_280 rfl ?_
                      refine wp_goto (pc := 281) 285 dX9_heir_281 (by decide) ?_
                      refine wp_istore_n (pc := 285) (L' := [_, _, _, _, _]) dX9_heir_285 (Nat.le_of_ble_eq_true rfl) rfl rfl ?_
                      first | (exact absurd h277 (by decide); done) | ((refine wp_iinc1 (pc := 286) (L' := [_, _, _, _, _]) dX9_heir_286 rfl rfl rfl ?_); (refine wp_goto (pc := 289) 184 dX9_heir_289 (by decide) ?_); (rw [en] at ihk); (first | exact ihk _ | (rw [nv_n (by omega)] at ihk; exact ihk _)))
                  · have w3 : rf < rk := by rcases Nat.lt_or_ge rf rk with q | q; exact q; exact absurd (nI_le q (by omega)) h265
                    have en : (heirN s.Λ d (k + 1)) = k := heir_y hkd hd9 (by rw [hf]; exact ii.mpr (Or.inr ⟨w2, w3⟩))
                    refine wp_ic (pc := 268) (x := nI 1) dX9_heir_268 ic_1 ?_
                    refine wp_goto (pc := 269) 273 dX9_heir_269 (by decide) ?_
                    refine wp_istore (pc := 273) (L' := [_, _, _, _, _]) dX9_heir_273 (Nat.le_of_ble_eq_true rfl) rfl rfl ?_
                    refine wp_iload (pc := 275) dX9_heir_275 rfl ?_
                    refine wp_if_eq (pc := 277) 284 dX9_heir_277 (by decide) (fun h277 => ?_) (fun h277 => ?_)
                    · refine wp_iload_n (pc := 284) dX9_heir_284 rfl ?_
                      refine wp_istore_n (pc := 285) (L' := [_, _, _, _, _]) dX9_heir_285 (Nat.le_of_ble_eq_true rfl) rfl rfl ?_
                      first | (exact absurd h277 (by decide); done) | ((refine wp_iinc1 (pc := 286) (L' := [_, _, _, _, _]) dX9_heir_286 rfl rfl rfl ?_); (refine wp_goto (pc := 289) 184 dX9_heir_289 (by decide) ?_); (rw [en] at ihk); (first | exact ihk _ | (rw [nv_n (by omega)] at ihk; exact ihk _)))
                    · refine wp_iload_n (pc := 280) dX9_heir_280 rfl ?_
                      refine wp_goto (pc := 281) 285 dX9_heir_281 (by decide) ?_
                      refine wp_istore_n (pc := 285) (L' := [_, _, _, _, _]) dX9_heir_285 (Nat.le_of_ble_eq_true rfl) rfl rfl ?_
                      first | (exact absurd h277 (by decide); done) | ((refine wp_iinc1 (pc := 286) (L' := [_, _, _, _, _]) dX9_heir_286 rfl rfl rfl ?_); (refine wp_goto (pc := 289) 184 dX9_heir_289 (by decide) ?_); (rw [en] at ihk); (first | exact ihk _ | (rw [nv_n (by omega)] at ihk; exact ihk _)))
  have inr : ∀ d r, d < lD s.Λ → r < 4 → (∀ (M1 : Mm) (S : Nat → Nat) z3 z4, XM M1 s → Fm M M1 → STP M1 S → bfL s.Λ d S → bfU s.Λ d (r + 1) S → Wp E K mX9_heir 2 (0, 0) 173 [some (.ref (K.1 + 150)), some (.int (nI d)), some (.int (nI r)), z3, z4] [] 168 M1 0 0 (zI E K (fun r M' => r = oHeir s (nI d) ∧ XM M' s ∧ Fm M M'))) → ∀ (q k : Nat) (M1 : Mm) (S : Nat → Nat) (z4 : Option Value), q = lD s.Λ - k → k ≤ lD s.Λ → XM M1 s → Fm M M1 → STP M1 S → bfL s.Λ d S → bfU s.Λ d r S → bfM s.Λ d r k S → Wp E K mX9_heir 2 (0, 0) 55 [some (.ref (K.1 + 150)), some (.int (nI d)), some (.int (nI r)), some (.int (nI k)), z4] [] 168 M1 0 0 (zI E K (fun r M' => r = oHeir s (nI d) ∧ XM M' s ∧ Fm M M')) := by
    intro d r hd hr cont q
    induction q with
    | zero =>
      intro k M1 S z4 hq hk H F hS b1 b2 b3
      refine wp_iload_n (pc := 55) dX9_heir_55 rfl ?_
      refine wp_aload_n (pc := 56) dX9_heir_56 rfl ?_
      refine wf_getI (pc := 57) dX9_heir_57 fl_X9_69 lk_150 ?_
      rw [H.w.1]
      refine wp_icmp_ge (pc := 60) 173 dX9_heir_60 (by decide) (fun h60 => ?_) (fun h60 => ?_)
      · rw [show k = lD s.Λ by omega] at b3
        exact cont M1 S _ _ H F hS b1 (bf_end V.l hA hd hr b2 b3)
      · exact absurd (nI_le (by omega) (by omega)) h60
    | succ q ih =>
      intro k M1 S z4 hq hk H F hS b1 b2 b3
      obtain ⟨pe, pl⟩ := pq_ok V.l.pa V.l.N (show k < lD s.Λ by omega)
      have hpe : M1.1 153 (4 * k + 3) = nv (pq (lPa s.Λ) k) := (H.w.2.2.2.2.1 k (by omega)).2.2.trans pe
      obtain ⟨p, hp⟩ : ∃ p, pq (lPa s.Λ) k = p := ⟨_, rfl⟩
      refine wp_iload_n (pc := 55) dX9_heir_55 rfl ?_
      refine wp_aload_n (pc := 56) dX9_heir_56 rfl ?_
      refine wf_getI (pc := 57) dX9_heir_57 fl_X9_69 lk_150 ?_
      rw [H.w.1]
      refine wp_icmp_ge (pc := 60) 173 dX9_heir_60 (by decide) (fun h60 => ?_) (fun h60 => ?_)
      · exact absurd h60 (nI_ge (by omega) (by omega))
      · refine wp_aload_n (pc := 63) dX9_heir_63 rfl ?_
        refine wf_getR (pc := 64) dX9_heir_64 fl_X9_20 lk_150 (H.r 150 8 153 rfl) ?_
        refine wp_ic (pc := 67) (x := nI 4) dX9_heir_67 ic_4 ?_
        refine wp_iload_n (pc := 68) dX9_heir_68 rfl ?_
        refine wp_imul (pc := 69) dX9_heir_69 ?_
        refine wp_ic (pc := 70) (x := nI 3) dX9_heir_70 ic_3 ?_
        refine wp_iadd (pc := 71) dX9_heir_71 ?_
        refine wf_iald (pc := 72) (j := (4 * k + 3)) dX9_heir_72 lk_153 (by rw [pk_mul, nI_add]) (by omega) ?_
        rw [hpe]
        refine wp_istore (pc := 73) (L' := [_, _, _, _, _]) dX9_heir_73 (Nat.le_of_ble_eq_true rfl) rfl rfl ?_
        refine wp_iload (pc := 75) dX9_heir_75 rfl ?_
        refine wp_bipush (pc := 77) (x := (-9)) dX9_heir_77 bp_m9 ?_
        refine wp_icmp_eq (pc := 79) 167 dX9_heir_79 (by decide) (fun h79 => ?_) (fun h79 => ?_)
        · have e9 : pq (lPa s.Λ) k = 9 := (nv_is9 (by omega)).mp h79
          refine wp_iinc1 (pc := 167) (L' := [_, _, _, _, _]) dX9_heir_167 rfl rfl rfl ?_
          refine wp_goto (pc := 170) 55 dX9_heir_170 (by decide) ?_
          exact ih (k + 1) M1 S _ (by omega) (by omega) H F hS b1 b2 (bf_skip e9 b3)
        · have e9 : pq (lPa s.Λ) k ≠ 9 := fun q => h79 (by rw [q]; rfl)
          have hpD : pq (lPa s.Λ) k < lD s.Λ := by rcases pl with w | w; exact absurd w e9; exact w
          obtain ⟨c1, c2, c3⟩ := bf_step V.l hA hd (show k < lD s.Λ by omega) e9 b1 b2 b3
          have bk := b1 k (by omega)
          have bp := b1 _ hpD
          rw [nv_n e9, hp]
          rw [hp] at c1 c2 c3 hpD bp
          refine wp_aload_n (pc := 82) dX9_heir_82 rfl ?_
          refine wf_getR (pc := 83) dX9_heir_83 fl_X9_60 lk_150 (H.r 150 27 166 rfl) ?_
          refine wp_iload_n (pc := 86) dX9_heir_86 rfl ?_
          refine wp_aload_n (pc := 87) dX9_heir_87 rfl ?_
          refine wf_getR (pc := 88) dX9_heir_88 fl_X9_60 lk_150 (H.r 150 27 166 rfl) ?_
          refine wp_iload (pc := 91) dX9_heir_91 rfl ?_
          refine wf_iald (pc := 93) (j := p) dX9_heir_93 lk_166 rfl (by omega) ?_
          rw [hS p (by omega)]
          refine wp_ic (pc := 94) (x := nI 1) dX9_heir_94 ic_1 ?_
          refine wp_iadd (pc := 95) dX9_heir_95 ?_
          refine wp_aload_n (pc := 96) dX9_heir_96 rfl ?_
          refine wf_getR (pc := 97) dX9_heir_97 fl_X9_60 lk_150 (H.r 150 27 166 rfl) ?_
          refine wp_iload_n (pc := 100) dX9_heir_100 rfl ?_
          refine wf_iald (pc := 101) (j := k) dX9_heir_101 lk_166 rfl (by omega) ?_
          rw [hS k (by omega)]
          refine wp_icmp_ge (pc := 102) 117 dX9_heir_102 (by decide) (fun h102 => ?_) (fun h102 => ?_)
          · have hm : M1.1 166 k = nI (mnN (S p) (S k)) := (hS k (by omega)).trans (mn_n (fun q => absurd h102 (by rw [nI_add]; exact nI_ge q (by omega))))
            refine wp_aload_n (pc := 117) dX9_heir_117 rfl ?_
            refine wf_getR (pc := 118) dX9_heir_118 fl_X9_60 lk_150 (H.r 150 27 166 rfl) ?_
            refine wp_iload_n (pc := 121) dX9_heir_121 rfl ?_
            refine wf_iald (pc := 122) (j := k) dX9_heir_122 lk_166 rfl (by omega) ?_
            first | refine wp_top (nI (mnN (S p) (S k))) (hm (nI_add _ _)) ?_ | refine wp_top (nI (mnN (S p) (S k))) hm ?_
            refine wf_iast (pc := 123) (j := k) dX9_heir_123 lk_166 rfl (by omega) ?_
            have hS1 := hS.w k (mnN (S p) (S k))
            have F := F.tr (Fm.w (M := M1) (a := 166) (k := k) (x := nI (mnN (S p) (S k))) (by decide))
            have H := H.scr (lo := 166) (hi := 167) (Sm.w (M := M1) (a := 166) (k := k) (x := nI (mnN (S p) (S k))) (by omega) (by omega)) (by omega)
            have bk1 : setN S k (mnN (S p) (S k)) k ≤ 9999 := by unfold setN; rw [if_pos rfl]; exact mn_le _ _ bk.2
            have bp1 : setN S k (mnN (S p) (S k)) p ≤ 9999 := by unfold setN; split; exact mn_le _ _ bk.2; exact bp.2
            generalize wI M1 166 k (nI (mnN (S p) (S k))) = M2 at hS1 F H ⊢
            generalize setN S k (mnN (S p) (S k)) = S1 at hS1 c1 c2 c3 bk1 bp1
            refine wp_aload_n (pc := 124) dX9_heir_124 rfl ?_
            refine wf_getR (pc := 125) dX9_heir_125 fl_X9_60 lk_150 (H.r 150 27 166 rfl) ?_
            refine wp_iload (pc := 128) dX9_heir_128 rfl ?_
            refine wp_aload_n (pc := 130) dX9_heir_130 rfl ?_
            refine wf_getR (pc := 131) dX9_heir_131 fl_X9_60 lk_150 (H.r 150 27 166 rfl) ?_
            refine wp_iload_n (pc := 134) dX9_heir_134 rfl ?_
            refine wf_iald (pc := 135) (j := k) dX9_heir_135 lk_166 rfl (by omega) ?_
            rw [hS1 k (by omega)]
            refine wp_ic (pc := 136) (x := nI 1) dX9_heir_136 ic_1 ?_
            refine wp_iadd (pc := 137) dX9_heir_137 ?_
            refine wp_aload_n (pc := 138) dX9_heir_138 rfl ?_
            refine wf_getR (pc := 139) dX9_heir_139 fl_X9_60 lk_150 (H.r 150 27 166 rfl) ?_
            refine wp_iload (pc := 142) dX9_heir_142 rfl ?_
            refine wf_iald (pc := 144) (j := p) dX9_heir_144 lk_166 rfl (by omega) ?_
            rw [hS1 p (by omega)]
            refine wp_icmp_ge (pc := 145) 159 dX9_heir_145 (by decide) (fun h145 => ?_) (fun h145 => ?_)
            · have hm1 : M2.1 166 p = nI (mnN (S1 k) (S1 p)) := (hS1 p (by omega)).trans (mn_n (fun q => absurd h145 (by rw [nI_add]; exact nI_ge q (by omega))))
              refine wp_aload_n (pc := 159) dX9_heir_159 rfl ?_
              refine wf_getR (pc := 160) dX9_heir_160 fl_X9_60 lk_150 (H.r 150 27 166 rfl) ?_
              refine wp_iload (pc := 163) dX9_heir_163 rfl ?_
              refine wf_iald (pc := 165) (j := p) dX9_heir_165 lk_166 rfl (by omega) ?_
              first | refine wp_top (nI (mnN (S1 k) (S1 p))) (hm1 (nI_add _ _)) ?_ | refine wp_top (nI (mnN (S1 k) (S1 p))) hm1 ?_
              refine wf_iast (pc := 166) (j := p) dX9_heir_166 lk_166 rfl (by omega) ?_
              refine wp_iinc1 (pc := 167) (L' := [_, _, _, _, _]) dX9_heir_167 rfl rfl rfl ?_
              refine wp_goto (pc := 170) 55 dX9_heir_170 (by decide) ?_
              exact ih (k + 1) _ _ _ (by omega) (by omega) (H.scr (lo := 166) (hi := 167) (Sm.w (by omega) (by omega)) (by omega)) (F.tr (Fm.w (by decide))) (hS1.w p _) c1 c2 c3
            · have hm1 : nI (S1 k) + nI 1 = nI (S1 k + 1) → nI (S1 k) + nI 1 = nI (mnN (S1 k) (S1 p)) := fun w => w.trans (mn_y (by rcases Nat.lt_or_ge (S1 k + 1) (S1 p) with q | q; exact q; exact absurd (by rw [nI_add]; exact nI_le q (by omega)) h145))
              refine wp_aload_n (pc := 148) dX9_heir_148 rfl ?_
              refine wf_getR (pc := 149) dX9_heir_149 fl_X9_60 lk_150 (H.r 150 27 166 rfl) ?_
              refine wp_iload_n (pc := 152) dX9_heir_152 rfl ?_
              refine wf_iald (pc := 153) (j := k) dX9_heir_153 lk_166 rfl (by omega) ?_
              rw [hS1 k (by omega)]
              refine wp_ic (pc := 154) (x := nI 1) dX9_heir_154 ic_1 ?_
              refine wp_iadd (pc := 155) dX9_heir_155 ?_
              refine wp_goto (pc := 156) 166 dX9_heir_156 (by decide) ?_
              first | refine wp_top (nI (mnN (S1 k) (S1 p))) (hm1 (nI_add _ _)) ?_ | refine wp_top (nI (mnN (S1 k) (S1 p))) hm1 ?_
              refine wf_iast (pc := 166) (j := p) dX9_heir_166 lk_166 rfl (by omega) ?_
              refine wp_iinc1 (pc := 167) (L' := [_, _, _, _, _]) dX9_heir_167 rfl rfl rfl ?_
              refine wp_goto (pc := 170) 55 dX9_heir_170 (by decide) ?_
              exact ih (k + 1) _ _ _ (by omega) (by omega) (H.scr (lo := 166) (hi := 167) (Sm.w (by omega) (by omega)) (by omega)) (F.tr (Fm.w (by decide))) (hS1.w p _) c1 c2 c3
          · have hm : nI (S p) + nI 1 = nI (S p + 1) → nI (S p) + nI 1 = nI (mnN (S p) (S k)) := fun w => w.trans (mn_y (by rcases Nat.lt_or_ge (S p + 1) (S k) with q | q; exact q; exact absurd (by rw [nI_add]; exact nI_le q (by omega)) h102))
            refine wp_aload_n (pc := 105) dX9_heir_105 rfl ?_
            refine wf_getR (pc := 106) dX9_heir_106 fl_X9_60 lk_150 (H.r 150 27 166 rfl) ?_
            refine wp_iload (pc := 109) dX9_heir_109 rfl ?_
            refine wf_iald (pc := 111) (j := p) dX9_heir_111 lk_166 rfl (by omega) ?_
            rw [hS p (by omega)]
            refine wp_ic (pc := 112) (x := nI 1) dX9_heir_112 ic_1 ?_
            refine wp_iadd (pc := 113) dX9_heir_113 ?_
            refine wp_goto (pc := 114) 123 dX9_heir_114 (by decide) ?_
            first | refine wp_top (nI (mnN (S p) (S k))) (hm (nI_add _ _)) ?_ | refine wp_top (nI (mnN (S p) (S k))) hm ?_
            refine wf_iast (pc := 123) (j := k) dX9_heir_123 lk_166 rfl (by omega) ?_
            have hS1 := hS.w k (mnN (S p) (S k))
            have F := F.tr (Fm.w (M := M1) (a := 166) (k := k) (x := nI (mnN (S p) (S k))) (by decide))
            have H := H.scr (lo := 166) (hi := 167) (Sm.w (M := M1) (a := 166) (k := k) (x := nI (mnN (S p) (S k))) (by omega) (by omega)) (by omega)
            have bk1 : setN S k (mnN (S p) (S k)) k ≤ 9999 := by unfold setN; rw [if_pos rfl]; exact mn_le _ _ bk.2
            have bp1 : setN S k (mnN (S p) (S k)) p ≤ 9999 := by unfold setN; split; exact mn_le _ _ bk.2; exact bp.2
            generalize wI M1 166 k (nI (mnN (S p) (S k))) = M2 at hS1 F H ⊢
            generalize setN S k (mnN (S p) (S k)) = S1 at hS1 c1 c2 c3 bk1 bp1
            refine wp_aload_n (pc := 124) dX9_heir_124 rfl ?_
            refine wf_getR (pc := 125) dX9_heir_125 fl_X9_60 lk_150 (H.r 150 27 166 rfl) ?_
            refine wp_iload (pc := 128) dX9_heir_128 rfl ?_
            refine wp_aload_n (pc := 130) dX9_heir_130 rfl ?_
            refine wf_getR (pc := 131) dX9_heir_131 fl_X9_60 lk_150 (H.r 150 27 166 rfl) ?_
            refine wp_iload_n (pc := 134) dX9_heir_134 rfl ?_
            refine wf_iald (pc := 135) (j := k) dX9_heir_135 lk_166 rfl (by omega) ?_
            rw [hS1 k (by omega)]
            refine wp_ic (pc := 136) (x := nI 1) dX9_heir_136 ic_1 ?_
            refine wp_iadd (pc := 137) dX9_heir_137 ?_
            refine wp_aload_n (pc := 138) dX9_heir_138 rfl ?_
            refine wf_getR (pc := 139) dX9_heir_139 fl_X9_60 lk_150 (H.r 150 27 166 rfl) ?_
            refine wp_iload (pc := 142) dX9_heir_142 rfl ?_
            refine wf_iald (pc := 144) (j := p) dX9_heir_144 lk_166 rfl (by omega) ?_
            rw [hS1 p (by omega)]
            refine wp_icmp_ge (pc := 145) 159 dX9_heir_145 (by decide) (fun h145 => ?_) (fun h145 => ?_)
            · have hm1 : M2.1 166 p = nI (mnN (S1 k) (S1 p)) := (hS1 p (by omega)).trans (mn_n (fun q => absurd h145 (by rw [nI_add]; exact nI_ge q (by omega))))
              refine wp_aload_n (pc := 159) dX9_heir_159 rfl ?_
              refine wf_getR (pc := 160) dX9_heir_160 fl_X9_60 lk_150 (H.r 150 27 166 rfl) ?_
              refine wp_iload (pc := 163) dX9_heir_163 rfl ?_
              refine wf_iald (pc := 165) (j := p) dX9_heir_165 lk_166 rfl (by omega) ?_
              first | refine wp_top (nI (mnN (S1 k) (S1 p))) (hm1 (nI_add _ _)) ?_ | refine wp_top (nI (mnN (S1 k) (S1 p))) hm1 ?_
              refine wf_iast (pc := 166) (j := p) dX9_heir_166 lk_166 rfl (by omega) ?_
              refine wp_iinc1 (pc := 167) (L' := [_, _, _, _, _]) dX9_heir_167 rfl rfl rfl ?_
              refine wp_goto (pc := 170) 55 dX9_heir_170 (by decide) ?_
              exact ih (k + 1) _ _ _ (by omega) (by omega) (H.scr (lo := 166) (hi := 167) (Sm.w (by omega) (by omega)) (by omega)) (F.tr (Fm.w (by decide))) (hS1.w p _) c1 c2 c3
            · have hm1 : nI (S1 k) + nI 1 = nI (S1 k + 1) → nI (S1 k) + nI 1 = nI (mnN (S1 k) (S1 p)) := fun w => w.trans (mn_y (by rcases Nat.lt_or_ge (S1 k + 1) (S1 p) with q | q; exact q; exact absurd (by rw [nI_add]; exact nI_le q (by omega)) h145))
              refine wp_aload_n (pc := 148) dX9_heir_148 rfl ?_
              refine wf_getR (pc := 149) dX9_heir_149 fl_X9_60 lk_150 (H.r 150 27 166 rfl) ?_
              refine wp_iload_n (pc := 152) dX9_heir_152 rfl ?_
              refine wf_iald (pc := 153) (j := k) dX9_heir_153 lk_166 rfl (by omega) ?_
              rw [hS1 k (by omega)]
              refine wp_ic (pc := 154) (x := nI 1) dX9_heir_154 ic_1 ?_
              refine wp_iadd (pc := 155) dX9_heir_155 ?_
              refine wp_goto (pc := 156) 166 dX9_heir_156 (by decide) ?_
              first | refine wp_top (nI (mnN (S1 k) (S1 p))) (hm1 (nI_add _ _)) ?_ | refine wp_top (nI (mnN (S1 k) (S1 p))) hm1 ?_
              refine wf_iast (pc := 166) (j := p) dX9_heir_166 lk_166 rfl (by omega) ?_
              refine wp_iinc1 (pc := 167) (L' := [_, _, _, _, _]) dX9_heir_167 rfl rfl rfl ?_
              refine wp_goto (pc := 170) 55 dX9_heir_170 (by decide) ?_
              exact ih (k + 1) _ _ _ (by omega) (by omega) (H.scr (lo := 166) (hi := 167) (Sm.w (by omega) (by omega)) (by omega)) (F.tr (Fm.w (by decide))) (hS1.w p _) c1 c2 c3
  have rnd : ∀ d, d < lD s.Λ → ∀ (q r : Nat) (M1 : Mm) (S : Nat → Nat) z3 z4, q = 4 - r → r ≤ 4 → XM M1 s → Fm M M1 → STP M1 S → bfL s.Λ d S → bfU s.Λ d r S → Wp E K mX9_heir 2 (0, 0) 48 [some (.ref (K.1 + 150)), some (.int (nI d)), some (.int (nI r)), z3, z4] [] 168 M1 0 0 (zI E K (fun r M' => r = oHeir s (nI d) ∧ XM M' s ∧ Fm M M')) := by
    intro d hd q
    induction q with
    | zero =>
      intro r M1 S z3 z4 hq hr H F hS b1 b2
      refine wp_iload_n (pc := 48) dX9_heir_48 rfl ?_
      refine wp_ic (pc := 49) (x := nI 4) dX9_heir_49 ic_4 ?_
      refine wp_icmp_ge (pc := 50) 179 dX9_heir_50 (by decide) (fun h50 => ?_) (fun h50 => ?_)
      · refine wp_bipush (pc := 179) (x := (-9)) dX9_heir_179 bp_m9 ?_
        refine wp_istore_n (pc := 181) (L' := [_, _, _, _, _]) dX9_heir_181 (Nat.le_of_ble_eq_true rfl) rfl rfl ?_
        refine wp_ic (pc := 182) (x := nI 0) dX9_heir_182 ic_0 ?_
        refine wp_istore_n (pc := 183) (L' := [_, _, _, _, _]) dX9_heir_183 (Nat.le_of_ble_eq_true rfl) rfl rfl ?_
        rw [show r = 4 by omega] at b2
        exact fin d hd M1 S H F hS (fun x hx => bf_eq V.l hA hd b1 b2 hx) (lD s.Λ) 0 _ (by omega) (by omega)
      · exact absurd (nI_le (by omega) (by omega)) h50
    | succ q ih =>
      intro r M1 S z3 z4 hq hr H F hS b1 b2
      refine wp_iload_n (pc := 48) dX9_heir_48 rfl ?_
      refine wp_ic (pc := 49) (x := nI 4) dX9_heir_49 ic_4 ?_
      refine wp_icmp_ge (pc := 50) 179 dX9_heir_50 (by decide) (fun h50 => ?_) (fun h50 => ?_)
      · exact absurd h50 (nI_ge (by omega) (by omega))
      · refine wp_ic (pc := 53) (x := nI 0) dX9_heir_53 ic_0 ?_
        refine wp_istore_n (pc := 54) (L' := [_, _, _, _, _]) dX9_heir_54 (Nat.le_of_ble_eq_true rfl) rfl rfl ?_
        refine inr d r hd (by omega) (fun M2 S2 z5 z6 H2 F2 hS2 b3 b4 => ?_) (lD s.Λ) 0 M1 S _ (by omega) (by omega) H F hS b1 b2 (fun j hj => absurd hj (Nat.not_lt_zero _))
        refine wp_iinc1 (pc := 173) (L' := [_, _, _, _, _]) dX9_heir_173 rfl rfl rfl ?_
        refine wp_goto (pc := 176) 48 dX9_heir_176 (by decide) ?_
        exact ih (r + 1) M2 S2 _ _ (by omega) (by omega) H2 F2 hS2 b3 b4
  have ini : ∀ d, d < lD s.Λ → ∀ (q k : Nat) (M1 : Mm), q = 4 - k → k ≤ 4 → XM M1 s → Fm M M1 → (∀ x, x < k → M1.1 166 x = nI ((fun x => if x = d then 0 else 9999) x)) → Wp E K mX9_heir 2 (0, 0) 17 [some (.ref (K.1 + 150)), some (.int (nI d)), some (.int (nI k)), none, none] [] 168 M1 0 0 (zI E K (fun r M' => r = oHeir s (nI d) ∧ XM M' s ∧ Fm M M')) := by
    intro d hd q
    induction q with
    | zero =>
      intro k M1 hq hk H F h0
      refine wp_iload_n (pc := 17) dX9_heir_17 rfl ?_
      refine wp_ic (pc := 18) (x := nI 4) dX9_heir_18 ic_4 ?_
      refine wp_icmp_ge (pc := 19) 46 dX9_heir_19 (by decide) (fun h19 => ?_) (fun h19 => ?_)
      · refine wp_ic (pc := 46) (x := nI 0) dX9_heir_46 ic_0 ?_
        refine wp_istore_n (pc := 47) (L' := [_, _, _, _, _]) dX9_heir_47 (Nat.le_of_ble_eq_true rfl) rfl rfl ?_
        have f0 := (kin_facts V.l hA hd hd).1
        refine rnd d hd 4 0 M1 (fun x => if x = d then 0 else 9999) _ _ (by omega) (by omega) H F (fun x hx => h0 x (by omega)) (fun x hx => ?_) (fun x hx hx0 => ?_)
        · show dsN s.Λ d x ≤ (if x = d then 0 else 9999) ∧ (if x = d then 0 else 9999) ≤ 9999
          split
          · rename_i e; subst e; omega
          · exact ⟨dsN_le s.Λ d x, Nat.le_refl _⟩
        · show (if x = d then 0 else 9999) ≤ dsN s.Λ d x
          split
          · exact Nat.zero_le _
          · rename_i e
            have := (kin_facts V.l hA hd hx).2.2 e (by omega)
            omega
      · exact absurd (nI_le (by omega) (by omega)) h19
    | succ q ih =>
      intro k M1 hq hk H F h0
      refine wp_iload_n (pc := 17) dX9_heir_17 rfl ?_
      refine wp_ic (pc := 18) (x := nI 4) dX9_heir_18 ic_4 ?_
      refine wp_icmp_ge (pc := 19) 46 dX9_heir_19 (by decide) (fun h19 => ?_) (fun h19 => ?_)
      · exact absurd h19 (nI_ge (by omega) (by omega))
      · refine wp_aload_n (pc := 22) dX9_heir_22 rfl ?_
        refine wf_getR (pc := 23) dX9_heir_23 fl_X9_60 lk_150 (H.r 150 27 166 rfl) ?_
        refine wp_iload_n (pc := 26) dX9_heir_26 rfl ?_
        refine wp_iload_n (pc := 27) dX9_heir_27 rfl ?_
        refine wp_iload_n (pc := 28) dX9_heir_28 rfl ?_
        refine wp_icmp_ne (pc := 29) 36 dX9_heir_29 (by decide) (fun h29 => ?_) (fun h29 => ?_)
        · have e0 : ¬ k = d := fun q => h29 (by rw [q])
          have e1 : nI 9999 = nI ((fun x => if x = d then 0 else 9999) k) := by show _ = nI (if k = d then 0 else 9999); rw [if_neg e0]
          refine wp_sipush (pc := 36) (x := nI 9999) dX9_heir_36 sp_9999 ?_
          refine wp_top (nI ((fun x => if x = d then 0 else 9999) k)) e1 ?_
          refine wf_iast (pc := 39) (j := k) dX9_heir_39 lk_166 rfl (by omega) ?_
          refine wp_iinc1 (pc := 40) (L' := [_, _, _, _, _]) dX9_heir_40 rfl rfl rfl ?_
          refine wp_goto (pc := 43) 17 dX9_heir_43 (by decide) ?_
          refine ih (k + 1) _ (by omega) (by omega) (H.scr (lo := 166) (hi := 167) (Sm.w (by omega) (by omega)) (by omega)) (F.tr (Fm.w (by decide))) (fun x hx => ?_)
          by_cases e : x = k
          · subst e; exact wI_at _ _ _ _
          · exact (wI_nk e).trans (h0 x (by omega))
        · have e0 : k = d := (nI_eq (by omega) (by omega)).mp h29
          have e1 : nI 0 = nI ((fun x => if x = d then 0 else 9999) k) := by show _ = nI (if k = d then 0 else 9999); rw [if_pos e0]
          refine wp_ic (pc := 32) (x := nI 0) dX9_heir_32 ic_0 ?_
          refine wp_goto (pc := 33) 39 dX9_heir_33 (by decide) ?_
          refine wp_top (nI ((fun x => if x = d then 0 else 9999) k)) e1 ?_
          refine wf_iast (pc := 39) (j := k) dX9_heir_39 lk_166 rfl (by omega) ?_
          refine wp_iinc1 (pc := 40) (L' := [_, _, _, _, _]) dX9_heir_40 rfl rfl rfl ?_
          refine wp_goto (pc := 43) 17 dX9_heir_43 (by decide) ?_
          refine ih (k + 1) _ (by omega) (by omega) (H.scr (lo := 166) (hi := 167) (Sm.w (by omega) (by omega)) (by omega)) (F.tr (Fm.w (by decide))) (fun x hx => ?_)
          by_cases e : x = k
          · subst e; exact wI_at _ _ _ _
          · exact (wI_nk e).trans (h0 x (by omega))
  refine wp_aload_n (pc := 0) dX9_heir_0 rfl ?_
  refine wp_ic (pc := 1) (x := nI 0) dX9_heir_1 ic_0 ?_
  refine wf_putI (pc := 2) dX9_heir_2 fl_X9_66 lk_150 ?_
  have F : Fm M (wI M 150 0 (nI 0)) := Fm.w (by decide)
  have H := H.f (k := 0) (nI 0) (by decide)
  generalize wI M 150 0 (nI 0) = M5 at H F ⊢
  refine wp_aload_n (pc := 5) dX9_heir_5 rfl ?_
  refine wp_iload_n (pc := 6) dX9_heir_6 rfl ?_
  refine wf_callVi (pc := 7) dX9_heir_7 cl_X9_153 (c_noDog H.r V.l.N H.w) lk_150 rfl rfl rfl rfl (Nat.le_of_ble_eq_true rfl) (by decide) ⟨Nat.le_refl _, Nat.le_refl _⟩ (fun r7 M7 q7 => ?_)
  rw [q7.1, q7.2]
  refine wp_if_eq (pc := 10) 15 dX9_heir_10 (by decide) (fun h10 => ?_) (fun h10 => ?_)
  · have h10 := b2i_0 h10
    have h10 : inD y (lD s.Λ) = true := by simpa using h10
    obtain ⟨d, hd, ed⟩ := inD_of (by assumption) (show lD s.Λ < 2 ^ 31 by have := V.l.N.1; omega)
    have hd4 : d < 4 := Nat.lt_of_lt_of_le hd V.l.N.1
    subst ed
    refine wp_ic (pc := 15) (x := nI 0) dX9_heir_15 ic_0 ?_
    refine wp_istore_n (pc := 16) (L' := [_, _, _, _, _]) dX9_heir_16 (Nat.le_of_ble_eq_true rfl) rfl rfl ?_
    exact ini d hd 4 0 M5 (by omega) (by omega) H F (fun x hx => absurd hx (Nat.not_lt_zero _))
  · have h10 := b2i_1 h10
    have h10 : inD y (lD s.Λ) = false := by simpa using h10
    refine wp_ic (pc := 13) (x := (-1)) dX9_heir_13 ic_m1 ?_
    refine wf_iret (pc := 14) dX9_heir_14 rfl ?_
    unfold oHeir; rw [if_neg (by rw [h10]; decide)]
    exact ⟨rfl, H, F⟩
