theorem c_goHourR {l : Launch} {K : CtxT} {M : Mm} {Λ : Lw} (hR : RS M) (hL : OkN Λ) (hw : XW M Λ) {p : Nat} (hpl : lk p = (9, 25)) {P : Pg} (hP : MT M p 0 P) (hp9 : 154 < p) {h far : Nat} {x : Int32} (hO : OkP Λ P h) (hh : h + far < 2 ^ 31) : Ci l K 1 mX9_goHour [.ref (K.1 + 150), .ref (K.1 + p), .int x, .int (nI far)] M (fun r M' => r = (hourP Λ P h far x).1 ∧ MT M' p 0 (hourP Λ P h far x).2 ∧ Sm p (p + 1) M M') := by
  refine ci_of (L := [some (.ref (K.1 + 150)), some (.ref (K.1 + p)), some (.int x), some (.int (nI far)), none, none, none, none, none]) (by decide +kernel) (Nat.le_of_ble_eq_true rfl) rfl rfl (fun E => ?_)
  have hM := hL.2.1
  have hD := hL.1
  have loop : ∀ (n m : Nat) (M1 : Mm) (c : Int32 × Pg) (z : Option Value), n = lM Λ - m → m ≤ lM Λ → c = hitP Λ (decide (x ≤ nI (h % 12))) (lRo Λ ((h + far) % 4)) (nI 0, P) m → MT M1 p 0 c.2 → Sm p (p + 1) M M1 → Wp E K mX9_goHour 1 (0, 0) 39 [some (.ref (K.1 + 150)), some (.ref (K.1 + p)), some (.int x), some (.int (nI far)), some (.int (lRo Λ ((h + far) % 4))), some (.int (b2i (decide (x ≤ nI (h % 12))))), some (.int c.1), some (.int (nI m)), z] [] 168 M1 0 0 (zI E K (fun r M' => r = (hourP Λ P h far x).1 ∧ MT M' p 0 (hourP Λ P h far x).2 ∧ Sm p (p + 1) M M')) := by
    intro n
    induction n with
    | zero =>
      intro m M1 c z hn hm hc hd1 s1
      refine wp_iload (pc := 39) dX9_goHour_39 rfl ?_
      refine wp_aload_n (pc := 41) dX9_goHour_41 rfl ?_
      refine wf_getI (pc := 42) dX9_goHour_42 fl_X9_76 lk_150 ?_
      rw [show M1.1 150 5 = nI (lM Λ) from (s1.2 150 (by omega) 5).trans hw.2.1]
      refine wp_icmp_ge (pc := 45) 228 dX9_goHour_45 (by decide) (fun h45 => ?_) (fun h45 => ?_)
      · have e : m = lM Λ := by omega
        subst e
        refine wp_aload_n (pc := 228) dX9_goHour_228 rfl ?_
        refine wp_bipush (pc := 229) (x := nI 24) dX9_goHour_229 bp_24 ?_
        refine wp_dup2 (pc := 231) dX9_goHour_231 rfl rfl ?_
        refine wf_iald (pc := 232) (j := 24) dX9_goHour_232 hpl rfl (by omega) ?_
        refine wp_ic (pc := 233) (x := nI 1) dX9_goHour_233 ic_1 ?_
        refine wp_iadd (pc := 234) dX9_goHour_234 ?_
        refine wf_iast (pc := 235) (j := 24) dX9_goHour_235 hpl rfl (by omega) ?_
        refine wp_iload (pc := 236) dX9_goHour_236 rfl ?_
        refine wf_iret (pc := 238) dX9_goHour_238 rfl ?_
        subst hc
        refine ⟨rfl, (hd1.w 24 _).congr (fun j hj => ?_), s1.tr (Sm.w (by omega) (by omega))⟩
        show upd _ 24 (_ + nI 1) j = _
        rw [hd1.at (by omega)]
      · exact absurd (nI_le (by omega) (by omega)) h45
    | succ n ih =>
      intro m M1 c z hn hm hc hd1 s1
      obtain ⟨o1, oa, o2, o3⟩ := hO.hit hL (decide (x ≤ nI (h % 12))) (lRo Λ ((h + far) % 4)) m (by omega)
      rw [← hc] at o1
      obtain ⟨zs, zs3, ez⟩ := (o1.2.2.1 m (by omega)).2.2.1
      refine wp_iload (pc := 39) dX9_goHour_39 rfl ?_
      refine wp_aload_n (pc := 41) dX9_goHour_41 rfl ?_
      refine wf_getI (pc := 42) dX9_goHour_42 fl_X9_76 lk_150 ?_
      rw [show M1.1 150 5 = nI (lM Λ) from (s1.2 150 (by omega) 5).trans hw.2.1]
      refine wp_icmp_ge (pc := 45) 228 dX9_goHour_45 (by decide) (fun h45 => ?_) (fun h45 => ?_)
      · exact absurd h45 (nI_ge (by omega) (by omega))
      · refine wp_aload_n (pc := 48) dX9_goHour_48 rfl ?_
        refine wp_bipush (pc := 49) (x := nI 19) dX9_goHour_49 bp_19 ?_
        refine wp_iload (pc := 51) dX9_goHour_51 rfl ?_
        refine wp_iadd (pc := 53) dX9_goHour_53 ?_
        refine wf_iald (pc := 54) (j := (19 + m)) dX9_goHour_54 hpl (nI_add _ _) (by omega) ?_
        rw [hd1.at (show 19 + m < 25 by omega)]
        refine wp_if_le (pc := 55) 110 dX9_goHour_55 (by decide) (fun h55 => ?_) (fun h55 => ?_)
        · have n0 : ¬ 0 < c.2 (19 + m) := Int32.not_lt.mpr h55
          refine wp_aload_n (pc := 110) dX9_goHour_110 rfl ?_
          refine wp_bipush (pc := 111) (x := nI 13) dX9_goHour_111 bp_13 ?_
          refine wp_iload (pc := 113) dX9_goHour_113 rfl ?_
          refine wp_iadd (pc := 115) dX9_goHour_115 ?_
          refine wf_iald (pc := 116) (j := (13 + m)) dX9_goHour_116 hpl (nI_add _ _) (by omega) ?_
          rw [hd1.at (show 13 + m < 25 by omega)]
          refine wp_iload (pc := 117) dX9_goHour_117 rfl ?_
          refine wp_icmp_ne (pc := 119) 222 dX9_goHour_119 (by decide) (fun h119 => ?_) (fun h119 => ?_)
          · have hst : hstP Λ (decide (x ≤ nI (h % 12))) (lRo Λ ((h + far) % 4)) c m = (c.1, c.2) := by unfold hstP; rw [if_neg n0, if_neg (fun q => h119 q.1)]
            skip
            refine wp_iinc1 (pc := 222) (L' := [_, _, _, _, _, _, _, _, _]) dX9_goHour_222 rfl rfl rfl ?_
            refine wp_goto (pc := 225) 39 dX9_goHour_225 (by decide) ?_
            have hN := hst.symm.trans (show hstP Λ (decide (x ≤ nI (h % 12))) (lRo Λ ((h + far) % 4)) c m = hitP Λ (decide (x ≤ nI (h % 12))) (lRo Λ ((h + far) % 4)) (nI 0, P) (m + 1) by rw [hc]; rfl)
            have ih3 := fun M' z' => ih (m + 1) M' _ z' (by omega) (by omega) hN
            refine ih3 _ _ ?_ ?_
            · first | exact hd1 | exact hd2 | exact hd3 | exact hd4
            · first | exact s1 | exact s1.tr (Sm.w (by omega) (by omega)) | exact (s1.tr (Sm.w (by omega) (by omega))).tr (Sm.w (by omega) (by omega))
          · refine wp_aload_n (pc := 122) dX9_goHour_122 rfl ?_
            refine wp_bipush (pc := 123) (x := nI 18) dX9_goHour_123 bp_18 ?_
            refine wf_iald (pc := 125) (j := 18) dX9_goHour_125 hpl rfl (by omega) ?_
            rw [hd1.at (show 18 < 25 by omega)]
            refine wp_iload (pc := 126) dX9_goHour_126 rfl ?_
            refine wf_callSi (pc := 128) dX9_goHour_128 cl_X9_89 c_has rfl rfl (Nat.le_of_ble_eq_true rfl) (by decide) ⟨Nat.le_refl _, Nat.le_refl _⟩ (fun r128 M128 q128 => ?_)
            rw [q128.1, q128.2]
            refine wp_if_ne (pc := 131) 158 dX9_goHour_131 (by decide) (fun h131 => ?_) (fun h131 => ?_)
            · have h131 := b2i_1 h131
              have hlo : mayP Λ c.2 m (decide (x ≤ nI (h % 12))) = decide (c.2 (8 + m) = no9) := by unfold mayP; rw [h131]; simp
              refine wp_ic (pc := 158) (x := nI 0) dX9_goHour_158 ic_0 ?_
              refine wp_istore (pc := 159) (L' := [_, _, _, _, _, _, _, _, _]) dX9_goHour_159 (Nat.le_of_ble_eq_true rfl) rfl rfl ?_
              refine wp_aload_n (pc := 161) dX9_goHour_161 rfl ?_
              refine wp_bipush (pc := 162) (x := nI 8) dX9_goHour_162 bp_8 ?_
              refine wp_iload (pc := 164) dX9_goHour_164 rfl ?_
              refine wp_iadd (pc := 166) dX9_goHour_166 ?_
              refine wf_iald (pc := 167) (j := (8 + m)) dX9_goHour_167 hpl (nI_add _ _) (by omega) ?_
              rw [hd1.at (show 8 + m < 25 by omega)]
              refine wp_bipush (pc := 168) (x := (-9)) dX9_goHour_168 bp_m9 ?_
              refine wp_icmp_eq (pc := 170) 178 dX9_goHour_170 (by decide) (fun h170 => ?_) (fun h170 => ?_)
              · have hmay : mayP Λ c.2 m (decide (x ≤ nI (h % 12))) = true := by first | (rw [hlo]; exact decide_eq_true h170) | exact hlo
                refine wp_aload_n (pc := 178) dX9_goHour_178 rfl ?_
                refine wp_bipush (pc := 179) (x := nI 19) dX9_goHour_179 bp_19 ?_
                refine wp_iload (pc := 181) dX9_goHour_181 rfl ?_
                refine wp_iadd (pc := 183) dX9_goHour_183 ?_
                refine wp_ic (pc := 184) (x := nI 3) dX9_goHour_184 ic_3 ?_
                refine wf_iast (pc := 185) (j := (19 + m)) dX9_goHour_185 hpl (nI_add _ _) (by omega) ?_
                have hd2 := hd1.w (19 + m) (nI 3)
                refine wp_iload (pc := 186) dX9_goHour_186 rfl ?_
                refine wp_ic (pc := 188) (x := nI 1) dX9_goHour_188 ic_1 ?_
                refine wp_iload (pc := 189) dX9_goHour_189 rfl ?_
                refine wp_ishl (pc := 191) dX9_goHour_191 ?_
                refine wp_ior (pc := 192) dX9_goHour_192 ?_
                refine wp_istore (pc := 193) (L' := [_, _, _, _, _, _, _, _, _]) dX9_goHour_193 (Nat.le_of_ble_eq_true rfl) rfl rfl ?_
                refine wp_aload_n (pc := 195) dX9_goHour_195 rfl ?_
                refine wp_bipush (pc := 196) (x := nI 8) dX9_goHour_196 bp_8 ?_
                refine wp_iload (pc := 198) dX9_goHour_198 rfl ?_
                refine wp_iadd (pc := 200) dX9_goHour_200 ?_
                refine wf_iald (pc := 201) (j := (8 + m)) dX9_goHour_201 hpl (nI_add _ _) (by omega) ?_
                rw [show (wI M1 p (19 + m) (nI 3)).1 p (8 + m) = c.2 (8 + m) from (wI_nk (by omega)).trans (hd1.at (by omega))]
                refine wp_bipush (pc := 202) (x := (-9)) dX9_goHour_202 bp_m9 ?_
                refine wp_icmp_eq (pc := 204) 222 dX9_goHour_204 (by decide) (fun h204 => ?_) (fun h204 => ?_)
                · have hst : hstP Λ (decide (x ≤ nI (h % 12))) (lRo Λ ((h + far) % 4)) c m = (c.1 ||| bit m, upd c.2 (19 + m) (nI 3)) := by unfold hstP catP; rw [if_neg n0, if_pos ⟨h119, hmay⟩, if_neg (fun q => q h204)]
                  skip
                  refine wp_iinc1 (pc := 222) (L' := [_, _, _, _, _, _, _, _, _]) dX9_goHour_222 rfl rfl rfl ?_
                  refine wp_goto (pc := 225) 39 dX9_goHour_225 (by decide) ?_
                  have hN := hst.symm.trans (show hstP Λ (decide (x ≤ nI (h % 12))) (lRo Λ ((h + far) % 4)) c m = hitP Λ (decide (x ≤ nI (h % 12))) (lRo Λ ((h + far) % 4)) (nI 0, P) (m + 1) by rw [hc]; rfl)
                  have ih3 := fun M' z' => ih (m + 1) M' _ z' (by omega) (by omega) hN
                  refine ih3 _ _ ?_ ?_
                  · first | exact hd1 | exact hd2 | exact hd3 | exact hd4
                  · first | exact s1 | exact s1.tr (Sm.w (by omega) (by omega)) | exact (s1.tr (Sm.w (by omega) (by omega))).tr (Sm.w (by omega) (by omega))
                · obtain ⟨kd, hkd, ekd⟩ : ∃ d, d < lD Λ ∧ c.2 (8 + m) = nI d := ((o1.2.2.1 m (by omega)).1).resolve_left h204
                  have hst : hstP Λ (decide (x ≤ nI (h % 12))) (lRo Λ ((h + far) % 4)) c m = (c.1 ||| bit m, upd (upd c.2 (19 + m) (nI 3)) (4 + kd) (c.2 (4 + kd) + nI 2)) := by unfold hstP catP; rw [if_neg n0, if_pos ⟨h119, hmay⟩, if_pos h204, ekd, nI_cl (by omega)]
                  refine wp_aload_n (pc := 207) dX9_goHour_207 rfl ?_
                  refine wp_ic (pc := 208) (x := nI 4) dX9_goHour_208 ic_4 ?_
                  refine wp_aload_n (pc := 209) dX9_goHour_209 rfl ?_
                  refine wp_bipush (pc := 210) (x := nI 8) dX9_goHour_210 bp_8 ?_
                  refine wp_iload (pc := 212) dX9_goHour_212 rfl ?_
                  refine wp_iadd (pc := 214) dX9_goHour_214 ?_
                  refine wf_iald (pc := 215) (j := (8 + m)) dX9_goHour_215 hpl (nI_add _ _) (by omega) ?_
                  rw [show (wI M1 p (19 + m) (nI 3)).1 p (8 + m) = c.2 (8 + m) from (wI_nk (by omega)).trans (hd1.at (by omega)), ekd]
                  refine wp_iadd (pc := 216) dX9_goHour_216 ?_
                  refine wp_dup2 (pc := 217) dX9_goHour_217 rfl rfl ?_
                  refine wf_iald (pc := 218) (j := (4 + kd)) dX9_goHour_218 hpl (nI_add _ _) (by omega) ?_
                  rw [show (wI M1 p (19 + m) (nI 3)).1 p (4 + kd) = c.2 (4 + kd) from (wI_nk (by omega)).trans (hd1.at (by omega))]
                  refine wp_ic (pc := 219) (x := nI 2) dX9_goHour_219 ic_2 ?_
                  refine wp_iadd (pc := 220) dX9_goHour_220 ?_
                  have hd4 := hd2.w (4 + kd) (c.2 (4 + kd) + nI 2)
                  refine wf_iast (pc := 221) (j := (4 + kd)) dX9_goHour_221 hpl (nI_add _ _) (by omega) ?_
                  skip
                  refine wp_iinc1 (pc := 222) (L' := [_, _, _, _, _, _, _, _, _]) dX9_goHour_222 rfl rfl rfl ?_
                  refine wp_goto (pc := 225) 39 dX9_goHour_225 (by decide) ?_
                  have hN := hst.symm.trans (show hstP Λ (decide (x ≤ nI (h % 12))) (lRo Λ ((h + far) % 4)) c m = hitP Λ (decide (x ≤ nI (h % 12))) (lRo Λ ((h + far) % 4)) (nI 0, P) (m + 1) by rw [hc]; rfl)
                  have ih3 := fun M' z' => ih (m + 1) M' _ z' (by omega) (by omega) hN
                  refine ih3 _ _ ?_ ?_
                  · first | exact hd1 | exact hd2 | exact hd3 | exact hd4
                  · first | exact s1 | exact s1.tr (Sm.w (by omega) (by omega)) | exact (s1.tr (Sm.w (by omega) (by omega))).tr (Sm.w (by omega) (by omega))
              · refine wp_iload (pc := 173) dX9_goHour_173 rfl ?_
                refine wp_if_eq (pc := 175) 222 dX9_goHour_175 (by decide) (fun h175 => ?_) (fun h175 => ?_)
                · have hst : hstP Λ (decide (x ≤ nI (h % 12))) (lRo Λ ((h + far) % 4)) c m = (c.1, c.2) := by unfold hstP; rw [if_neg n0, if_neg (fun q => by first | (rw [hlo, decide_eq_false h170] at q; exact absurd q.2 (by decide)) | exact absurd h175 (by decide))]
                  skip
                  refine wp_iinc1 (pc := 222) (L' := [_, _, _, _, _, _, _, _, _]) dX9_goHour_222 rfl rfl rfl ?_
                  refine wp_goto (pc := 225) 39 dX9_goHour_225 (by decide) ?_
                  have hN := hst.symm.trans (show hstP Λ (decide (x ≤ nI (h % 12))) (lRo Λ ((h + far) % 4)) c m = hitP Λ (decide (x ≤ nI (h % 12))) (lRo Λ ((h + far) % 4)) (nI 0, P) (m + 1) by rw [hc]; rfl)
                  have ih3 := fun M' z' => ih (m + 1) M' _ z' (by omega) (by omega) hN
                  refine ih3 _ _ ?_ ?_
                  · first | exact hd1 | exact hd2 | exact hd3 | exact hd4
                  · first | exact s1 | exact s1.tr (Sm.w (by omega) (by omega)) | exact (s1.tr (Sm.w (by omega) (by omega))).tr (Sm.w (by omega) (by omega))
                · have hmay : mayP Λ c.2 m (decide (x ≤ nI (h % 12))) = true := by first | exact hlo | exact absurd rfl h175
                  refine wp_aload_n (pc := 178) dX9_goHour_178 rfl ?_
                  refine wp_bipush (pc := 179) (x := nI 19) dX9_goHour_179 bp_19 ?_
                  refine wp_iload (pc := 181) dX9_goHour_181 rfl ?_
                  refine wp_iadd (pc := 183) dX9_goHour_183 ?_
                  refine wp_ic (pc := 184) (x := nI 3) dX9_goHour_184 ic_3 ?_
                  refine wf_iast (pc := 185) (j := (19 + m)) dX9_goHour_185 hpl (nI_add _ _) (by omega) ?_
                  have hd2 := hd1.w (19 + m) (nI 3)
                  refine wp_iload (pc := 186) dX9_goHour_186 rfl ?_
                  refine wp_ic (pc := 188) (x := nI 1) dX9_goHour_188 ic_1 ?_
                  refine wp_iload (pc := 189) dX9_goHour_189 rfl ?_
                  refine wp_ishl (pc := 191) dX9_goHour_191 ?_
                  refine wp_ior (pc := 192) dX9_goHour_192 ?_
                  refine wp_istore (pc := 193) (L' := [_, _, _, _, _, _, _, _, _]) dX9_goHour_193 (Nat.le_of_ble_eq_true rfl) rfl rfl ?_
                  refine wp_aload_n (pc := 195) dX9_goHour_195 rfl ?_
                  refine wp_bipush (pc := 196) (x := nI 8) dX9_goHour_196 bp_8 ?_
                  refine wp_iload (pc := 198) dX9_goHour_198 rfl ?_
                  refine wp_iadd (pc := 200) dX9_goHour_200 ?_
                  refine wf_iald (pc := 201) (j := (8 + m)) dX9_goHour_201 hpl (nI_add _ _) (by omega) ?_
                  rw [show (wI M1 p (19 + m) (nI 3)).1 p (8 + m) = c.2 (8 + m) from (wI_nk (by omega)).trans (hd1.at (by omega))]
                  refine wp_bipush (pc := 202) (x := (-9)) dX9_goHour_202 bp_m9 ?_
                  refine wp_icmp_eq (pc := 204) 222 dX9_goHour_204 (by decide) (fun h204 => ?_) (fun h204 => ?_)
                  · have hst : hstP Λ (decide (x ≤ nI (h % 12))) (lRo Λ ((h + far) % 4)) c m = (c.1 ||| bit m, upd c.2 (19 + m) (nI 3)) := by unfold hstP catP; rw [if_neg n0, if_pos ⟨h119, hmay⟩, if_neg (fun q => q h204)]
                    skip
                    refine wp_iinc1 (pc := 222) (L' := [_, _, _, _, _, _, _, _, _]) dX9_goHour_222 rfl rfl rfl ?_
                    refine wp_goto (pc := 225) 39 dX9_goHour_225 (by decide) ?_
                    have hN := hst.symm.trans (show hstP Λ (decide (x ≤ nI (h % 12))) (lRo Λ ((h + far) % 4)) c m = hitP Λ (decide (x ≤ nI (h % 12))) (lRo Λ ((h + far) % 4)) (nI 0, P) (m + 1) by rw [hc]; rfl)
                    have ih3 := fun M' z' => ih (m + 1) M' _ z' (by omega) (by omega) hN
                    refine ih3 _ _ ?_ ?_
                    · first | exact hd1 | exact hd2 | exact hd3 | exact hd4
                    · first | exact s1 | exact s1.tr (Sm.w (by omega) (by omega)) | exact (s1.tr (Sm.w (by omega) (by omega))).tr (Sm.w (by omega) (by omega))
                  · obtain ⟨kd, hkd, ekd⟩ : ∃ d, d < lD Λ ∧ c.2 (8 + m) = nI d := ((o1.2.2.1 m (by omega)).1).resolve_left h204
                    have hst : hstP Λ (decide (x ≤ nI (h % 12))) (lRo Λ ((h + far) % 4)) c m = (c.1 ||| bit m, upd (upd c.2 (19 + m) (nI 3)) (4 + kd) (c.2 (4 + kd) + nI 2)) := by unfold hstP catP; rw [if_neg n0, if_pos ⟨h119, hmay⟩, if_pos h204, ekd, nI_cl (by omega)]
                    refine wp_aload_n (pc := 207) dX9_goHour_207 rfl ?_
                    refine wp_ic (pc := 208) (x := nI 4) dX9_goHour_208 ic_4 ?_
                    refine wp_aload_n (pc := 209) dX9_goHour_209 rfl ?_
                    refine wp_bipush (pc := 210) (x := nI 8) dX9_goHour_210 bp_8 ?_
                    refine wp_iload (pc := 212) dX9_goHour_212 rfl ?_
                    refine wp_iadd (pc := 214) dX9_goHour_214 ?_
                    refine wf_iald (pc := 215) (j := (8 + m)) dX9_goHour_215 hpl (nI_add _ _) (by omega) ?_
                    rw [show (wI M1 p (19 + m) (nI 3)).1 p (8 + m) = c.2 (8 + m) from (wI_nk (by omega)).trans (hd1.at (by omega)), ekd]
                    refine wp_iadd (pc := 216) dX9_goHour_216 ?_
                    refine wp_dup2 (pc := 217) dX9_goHour_217 rfl rfl ?_
                    refine wf_iald (pc := 218) (j := (4 + kd)) dX9_goHour_218 hpl (nI_add _ _) (by omega) ?_
                    rw [show (wI M1 p (19 + m) (nI 3)).1 p (4 + kd) = c.2 (4 + kd) from (wI_nk (by omega)).trans (hd1.at (by omega))]
                    refine wp_ic (pc := 219) (x := nI 2) dX9_goHour_219 ic_2 ?_
                    refine wp_iadd (pc := 220) dX9_goHour_220 ?_
                    have hd4 := hd2.w (4 + kd) (c.2 (4 + kd) + nI 2)
                    refine wf_iast (pc := 221) (j := (4 + kd)) dX9_goHour_221 hpl (nI_add _ _) (by omega) ?_
                    skip
                    refine wp_iinc1 (pc := 222) (L' := [_, _, _, _, _, _, _, _, _]) dX9_goHour_222 rfl rfl rfl ?_
                    refine wp_goto (pc := 225) 39 dX9_goHour_225 (by decide) ?_
                    have hN := hst.symm.trans (show hstP Λ (decide (x ≤ nI (h % 12))) (lRo Λ ((h + far) % 4)) c m = hitP Λ (decide (x ≤ nI (h % 12))) (lRo Λ ((h + far) % 4)) (nI 0, P) (m + 1) by rw [hc]; rfl)
                    have ih3 := fun M' z' => ih (m + 1) M' _ z' (by omega) (by omega) hN
                    refine ih3 _ _ ?_ ?_
                    · first | exact hd1 | exact hd2 | exact hd3 | exact hd4
                    · first | exact s1 | exact s1.tr (Sm.w (by omega) (by omega)) | exact (s1.tr (Sm.w (by omega) (by omega))).tr (Sm.w (by omega) (by omega))
            · have h131 := b2i_0 h131
              have hle := h131
              refine wp_aload_n (pc := 134) dX9_goHour_134 rfl ?_
              refine wf_getR (pc := 135) dX9_goHour_135 fl_X9_23 lk_150 ((s1.rs hR) 150 9 154 rfl) ?_
              refine wp_ic (pc := 138) (x := nI 3) dX9_goHour_138 ic_3 ?_
              refine wp_iload (pc := 139) dX9_goHour_139 rfl ?_
              refine wp_imul (pc := 141) dX9_goHour_141 ?_
              refine wp_ic (pc := 142) (x := nI 2) dX9_goHour_142 ic_2 ?_
              refine wp_iadd (pc := 143) dX9_goHour_143 ?_
              refine wf_iald (pc := 144) (j := (3 * m + 2)) dX9_goHour_144 lk_154 (by rw [pk_mul, nI_add]) (by omega) ?_
              rw [show M1.1 154 (3 * m + 2) = lSi Λ m from (s1.2 154 (by omega) _).trans (hw.2.2.2.2.2 m (by omega))]
              refine wp_ic (pc := 145) (x := nI 1) dX9_goHour_145 ic_1 ?_
              refine wp_icmp_eq (pc := 146) 154 dX9_goHour_146 (by decide) (fun h146 => ?_) (fun h146 => ?_)
              · have hlo : mayP Λ c.2 m (decide (x ≤ nI (h % 12))) = true := by unfold mayP; rw [h131, decide_eq_true h146]; simp
                refine wp_ic (pc := 154) (x := nI 1) dX9_goHour_154 ic_1 ?_
                refine wp_goto (pc := 155) 159 dX9_goHour_155 (by decide) ?_
                refine wp_istore (pc := 159) (L' := [_, _, _, _, _, _, _, _, _]) dX9_goHour_159 (Nat.le_of_ble_eq_true rfl) rfl rfl ?_
                refine wp_aload_n (pc := 161) dX9_goHour_161 rfl ?_
                refine wp_bipush (pc := 162) (x := nI 8) dX9_goHour_162 bp_8 ?_
                refine wp_iload (pc := 164) dX9_goHour_164 rfl ?_
                refine wp_iadd (pc := 166) dX9_goHour_166 ?_
                refine wf_iald (pc := 167) (j := (8 + m)) dX9_goHour_167 hpl (nI_add _ _) (by omega) ?_
                rw [hd1.at (show 8 + m < 25 by omega)]
                refine wp_bipush (pc := 168) (x := (-9)) dX9_goHour_168 bp_m9 ?_
                refine wp_icmp_eq (pc := 170) 178 dX9_goHour_170 (by decide) (fun h170 => ?_) (fun h170 => ?_)
                · have hmay : mayP Λ c.2 m (decide (x ≤ nI (h % 12))) = true := by first | (rw [hlo]; exact decide_eq_true h170) | exact hlo
                  refine wp_aload_n (pc := 178) dX9_goHour_178 rfl ?_
                  refine wp_bipush (pc := 179) (x := nI 19) dX9_goHour_179 bp_19 ?_
                  refine wp_iload (pc := 181) dX9_goHour_181 rfl ?_
                  refine wp_iadd (pc := 183) dX9_goHour_183 ?_
                  refine wp_ic (pc := 184) (x := nI 3) dX9_goHour_184 ic_3 ?_
                  refine wf_iast (pc := 185) (j := (19 + m)) dX9_goHour_185 hpl (nI_add _ _) (by omega) ?_
                  have hd2 := hd1.w (19 + m) (nI 3)
                  refine wp_iload (pc := 186) dX9_goHour_186 rfl ?_
                  refine wp_ic (pc := 188) (x := nI 1) dX9_goHour_188 ic_1 ?_
                  refine wp_iload (pc := 189) dX9_goHour_189 rfl ?_
                  refine wp_ishl (pc := 191) dX9_goHour_191 ?_
                  refine wp_ior (pc := 192) dX9_goHour_192 ?_
                  refine wp_istore (pc := 193) (L' := [_, _, _, _, _, _, _, _, _]) dX9_goHour_193 (Nat.le_of_ble_eq_true rfl) rfl rfl ?_
                  refine wp_aload_n (pc := 195) dX9_goHour_195 rfl ?_
                  refine wp_bipush (pc := 196) (x := nI 8) dX9_goHour_196 bp_8 ?_
                  refine wp_iload (pc := 198) dX9_goHour_198 rfl ?_
                  refine wp_iadd (pc := 200) dX9_goHour_200 ?_
                  refine wf_iald (pc := 201) (j := (8 + m)) dX9_goHour_201 hpl (nI_add _ _) (by omega) ?_
                  rw [show (wI M1 p (19 + m) (nI 3)).1 p (8 + m) = c.2 (8 + m) from (wI_nk (by omega)).trans (hd1.at (by omega))]
                  refine wp_bipush (pc := 202) (x := (-9)) dX9_goHour_202 bp_m9 ?_
                  refine wp_icmp_eq (pc := 204) 222 dX9_goHour_204 (by decide) (fun h204 => ?_) (fun h204 => ?_)
                  · have hst : hstP Λ (decide (x ≤ nI (h % 12))) (lRo Λ ((h + far) % 4)) c m = (c.1 ||| bit m, upd c.2 (19 + m) (nI 3)) := by unfold hstP catP; rw [if_neg n0, if_pos ⟨h119, hmay⟩, if_neg (fun q => q h204)]
                    skip
                    refine wp_iinc1 (pc := 222) (L' := [_, _, _, _, _, _, _, _, _]) dX9_goHour_222 rfl rfl rfl ?_
                    refine wp_goto (pc := 225) 39 dX9_goHour_225 (by decide) ?_
                    have hN := hst.symm.trans (show hstP Λ (decide (x ≤ nI (h % 12))) (lRo Λ ((h + far) % 4)) c m = hitP Λ (decide (x ≤ nI (h % 12))) (lRo Λ ((h + far) % 4)) (nI 0, P) (m + 1) by rw [hc]; rfl)
                    have ih3 := fun M' z' => ih (m + 1) M' _ z' (by omega) (by omega) hN
                    refine ih3 _ _ ?_ ?_
                    · first | exact hd1 | exact hd2 | exact hd3 | exact hd4
                    · first | exact s1 | exact s1.tr (Sm.w (by omega) (by omega)) | exact (s1.tr (Sm.w (by omega) (by omega))).tr (Sm.w (by omega) (by omega))
                  · obtain ⟨kd, hkd, ekd⟩ : ∃ d, d < lD Λ ∧ c.2 (8 + m) = nI d := ((o1.2.2.1 m (by omega)).1).resolve_left h204
                    have hst : hstP Λ (decide (x ≤ nI (h % 12))) (lRo Λ ((h + far) % 4)) c m = (c.1 ||| bit m, upd (upd c.2 (19 + m) (nI 3)) (4 + kd) (c.2 (4 + kd) + nI 2)) := by unfold hstP catP; rw [if_neg n0, if_pos ⟨h119, hmay⟩, if_pos h204, ekd, nI_cl (by omega)]
                    refine wp_aload_n (pc := 207) dX9_goHour_207 rfl ?_
                    refine wp_ic (pc := 208) (x := nI 4) dX9_goHour_208 ic_4 ?_
                    refine wp_aload_n (pc := 209) dX9_goHour_209 rfl ?_
                    refine wp_bipush (pc := 210) (x := nI 8) dX9_goHour_210 bp_8 ?_
                    refine wp_iload (pc := 212) dX9_goHour_212 rfl ?_
                    refine wp_iadd (pc := 214) dX9_goHour_214 ?_
                    refine wf_iald (pc := 215) (j := (8 + m)) dX9_goHour_215 hpl (nI_add _ _) (by omega) ?_
                    rw [show (wI M1 p (19 + m) (nI 3)).1 p (8 + m) = c.2 (8 + m) from (wI_nk (by omega)).trans (hd1.at (by omega)), ekd]
                    refine wp_iadd (pc := 216) dX9_goHour_216 ?_
                    refine wp_dup2 (pc := 217) dX9_goHour_217 rfl rfl ?_
                    refine wf_iald (pc := 218) (j := (4 + kd)) dX9_goHour_218 hpl (nI_add _ _) (by omega) ?_
                    rw [show (wI M1 p (19 + m) (nI 3)).1 p (4 + kd) = c.2 (4 + kd) from (wI_nk (by omega)).trans (hd1.at (by omega))]
                    refine wp_ic (pc := 219) (x := nI 2) dX9_goHour_219 ic_2 ?_
                    refine wp_iadd (pc := 220) dX9_goHour_220 ?_
                    have hd4 := hd2.w (4 + kd) (c.2 (4 + kd) + nI 2)
                    refine wf_iast (pc := 221) (j := (4 + kd)) dX9_goHour_221 hpl (nI_add _ _) (by omega) ?_
                    skip
                    refine wp_iinc1 (pc := 222) (L' := [_, _, _, _, _, _, _, _, _]) dX9_goHour_222 rfl rfl rfl ?_
                    refine wp_goto (pc := 225) 39 dX9_goHour_225 (by decide) ?_
                    have hN := hst.symm.trans (show hstP Λ (decide (x ≤ nI (h % 12))) (lRo Λ ((h + far) % 4)) c m = hitP Λ (decide (x ≤ nI (h % 12))) (lRo Λ ((h + far) % 4)) (nI 0, P) (m + 1) by rw [hc]; rfl)
                    have ih3 := fun M' z' => ih (m + 1) M' _ z' (by omega) (by omega) hN
                    refine ih3 _ _ ?_ ?_
                    · first | exact hd1 | exact hd2 | exact hd3 | exact hd4
                    · first | exact s1 | exact s1.tr (Sm.w (by omega) (by omega)) | exact (s1.tr (Sm.w (by omega) (by omega))).tr (Sm.w (by omega) (by omega))
                · refine wp_iload (pc := 173) dX9_goHour_173 rfl ?_
                  refine wp_if_eq (pc := 175) 222 dX9_goHour_175 (by decide) (fun h175 => ?_) (fun h175 => ?_)
                  · have hst : hstP Λ (decide (x ≤ nI (h % 12))) (lRo Λ ((h + far) % 4)) c m = (c.1, c.2) := by unfold hstP; rw [if_neg n0, if_neg (fun q => by first | (rw [hlo, decide_eq_false h170] at q; exact absurd q.2 (by decide)) | exact absurd h175 (by decide))]
                    skip
                    refine wp_iinc1 (pc := 222) (L' := [_, _, _, _, _, _, _, _, _]) dX9_goHour_222 rfl rfl rfl ?_
                    refine wp_goto (pc := 225) 39 dX9_goHour_225 (by decide) ?_
                    have hN := hst.symm.trans (show hstP Λ (decide (x ≤ nI (h % 12))) (lRo Λ ((h + far) % 4)) c m = hitP Λ (decide (x ≤ nI (h % 12))) (lRo Λ ((h + far) % 4)) (nI 0, P) (m + 1) by rw [hc]; rfl)
                    have ih3 := fun M' z' => ih (m + 1) M' _ z' (by omega) (by omega) hN
                    refine ih3 _ _ ?_ ?_
                    · first | exact hd1 | exact hd2 | exact hd3 | exact hd4
                    · first | exact s1 | exact s1.tr (Sm.w (by omega) (by omega)) | exact (s1.tr (Sm.w (by omega) (by omega))).tr (Sm.w (by omega) (by omega))
                  · have hmay : mayP Λ c.2 m (decide (x ≤ nI (h % 12))) = true := by first | exact hlo | exact absurd rfl h175
                    refine wp_aload_n (pc := 178) dX9_goHour_178 rfl ?_
                    refine wp_bipush (pc := 179) (x := nI 19) dX9_goHour_179 bp_19 ?_
                    refine wp_iload (pc := 181) dX9_goHour_181 rfl ?_
                    refine wp_iadd (pc := 183) dX9_goHour_183 ?_
                    refine wp_ic (pc := 184) (x := nI 3) dX9_goHour_184 ic_3 ?_
                    refine wf_iast (pc := 185) (j := (19 + m)) dX9_goHour_185 hpl (nI_add _ _) (by omega) ?_
                    have hd2 := hd1.w (19 + m) (nI 3)
                    refine wp_iload (pc := 186) dX9_goHour_186 rfl ?_
                    refine wp_ic (pc := 188) (x := nI 1) dX9_goHour_188 ic_1 ?_
                    refine wp_iload (pc := 189) dX9_goHour_189 rfl ?_
                    refine wp_ishl (pc := 191) dX9_goHour_191 ?_
                    refine wp_ior (pc := 192) dX9_goHour_192 ?_
                    refine wp_istore (pc := 193) (L' := [_, _, _, _, _, _, _, _, _]) dX9_goHour_193 (Nat.le_of_ble_eq_true rfl) rfl rfl ?_
                    refine wp_aload_n (pc := 195) dX9_goHour_195 rfl ?_
                    refine wp_bipush (pc := 196) (x := nI 8) dX9_goHour_196 bp_8 ?_
                    refine wp_iload (pc := 198) dX9_goHour_198 rfl ?_
                    refine wp_iadd (pc := 200) dX9_goHour_200 ?_
                    refine wf_iald (pc := 201) (j := (8 + m)) dX9_goHour_201 hpl (nI_add _ _) (by omega) ?_
                    rw [show (wI M1 p (19 + m) (nI 3)).1 p (8 + m) = c.2 (8 + m) from (wI_nk (by omega)).trans (hd1.at (by omega))]
                    refine wp_bipush (pc := 202) (x := (-9)) dX9_goHour_202 bp_m9 ?_
                    refine wp_icmp_eq (pc := 204) 222 dX9_goHour_204 (by decide) (fun h204 => ?_) (fun h204 => ?_)
                    · have hst : hstP Λ (decide (x ≤ nI (h % 12))) (lRo Λ ((h + far) % 4)) c m = (c.1 ||| bit m, upd c.2 (19 + m) (nI 3)) := by unfold hstP catP; rw [if_neg n0, if_pos ⟨h119, hmay⟩, if_neg (fun q => q h204)]
                      skip
                      refine wp_iinc1 (pc := 222) (L' := [_, _, _, _, _, _, _, _, _]) dX9_goHour_222 rfl rfl rfl ?_
                      refine wp_goto (pc := 225) 39 dX9_goHour_225 (by decide) ?_
                      have hN := hst.symm.trans (show hstP Λ (decide (x ≤ nI (h % 12))) (lRo Λ ((h + far) % 4)) c m = hitP Λ (decide (x ≤ nI (h % 12))) (lRo Λ ((h + far) % 4)) (nI 0, P) (m + 1) by rw [hc]; rfl)
                      have ih3 := fun M' z' => ih (m + 1) M' _ z' (by omega) (by omega) hN
                      refine ih3 _ _ ?_ ?_
                      · first | exact hd1 | exact hd2 | exact hd3 | exact hd4
                      · first | exact s1 | exact s1.tr (Sm.w (by omega) (by omega)) | exact (s1.tr (Sm.w (by omega) (by omega))).tr (Sm.w (by omega) (by omega))
                    · obtain ⟨kd, hkd, ekd⟩ : ∃ d, d < lD Λ ∧ c.2 (8 + m) = nI d := ((o1.2.2.1 m (by omega)).1).resolve_left h204
                      have hst : hstP Λ (decide (x ≤ nI (h % 12))) (lRo Λ ((h + far) % 4)) c m = (c.1 ||| bit m, upd (upd c.2 (19 + m) (nI 3)) (4 + kd) (c.2 (4 + kd) + nI 2)) := by unfold hstP catP; rw [if_neg n0, if_pos ⟨h119, hmay⟩, if_pos h204, ekd, nI_cl (by omega)]
                      refine wp_aload_n (pc := 207) dX9_goHour_207 rfl ?_
                      refine wp_ic (pc := 208) (x := nI 4) dX9_goHour_208 ic_4 ?_
                      refine wp_aload_n (pc := 209) dX9_goHour_209 rfl ?_
                      refine wp_bipush (pc := 210) (x := nI 8) dX9_goHour_210 bp_8 ?_
                      refine wp_iload (pc := 212) dX9_goHour_212 rfl ?_
                      refine wp_iadd (pc := 214) dX9_goHour_214 ?_
                      refine wf_iald (pc := 215) (j := (8 + m)) dX9_goHour_215 hpl (nI_add _ _) (by omega) ?_
                      rw [show (wI M1 p (19 + m) (nI 3)).1 p (8 + m) = c.2 (8 + m) from (wI_nk (by omega)).trans (hd1.at (by omega)), ekd]
                      refine wp_iadd (pc := 216) dX9_goHour_216 ?_
                      refine wp_dup2 (pc := 217) dX9_goHour_217 rfl rfl ?_
                      refine wf_iald (pc := 218) (j := (4 + kd)) dX9_goHour_218 hpl (nI_add _ _) (by omega) ?_
                      rw [show (wI M1 p (19 + m) (nI 3)).1 p (4 + kd) = c.2 (4 + kd) from (wI_nk (by omega)).trans (hd1.at (by omega))]
                      refine wp_ic (pc := 219) (x := nI 2) dX9_goHour_219 ic_2 ?_
                      refine wp_iadd (pc := 220) dX9_goHour_220 ?_
                      have hd4 := hd2.w (4 + kd) (c.2 (4 + kd) + nI 2)
                      refine wf_iast (pc := 221) (j := (4 + kd)) dX9_goHour_221 hpl (nI_add _ _) (by omega) ?_
                      skip
                      refine wp_iinc1 (pc := 222) (L' := [_, _, _, _, _, _, _, _, _]) dX9_goHour_222 rfl rfl rfl ?_
                      refine wp_goto (pc := 225) 39 dX9_goHour_225 (by decide) ?_
                      have hN := hst.symm.trans (show hstP Λ (decide (x ≤ nI (h % 12))) (lRo Λ ((h + far) % 4)) c m = hitP Λ (decide (x ≤ nI (h % 12))) (lRo Λ ((h + far) % 4)) (nI 0, P) (m + 1) by rw [hc]; rfl)
                      have ih3 := fun M' z' => ih (m + 1) M' _ z' (by omega) (by omega) hN
                      refine ih3 _ _ ?_ ?_
                      · first | exact hd1 | exact hd2 | exact hd3 | exact hd4
                      · first | exact s1 | exact s1.tr (Sm.w (by omega) (by omega)) | exact (s1.tr (Sm.w (by omega) (by omega))).tr (Sm.w (by omega) (by omega))
              · refine wp_iload (pc := 149) dX9_goHour_149 rfl ?_
                refine wp_if_eq (pc := 151) 158 dX9_goHour_151 (by decide) (fun h151 => ?_) (fun h151 => ?_)
                · have h151 := b2i_0 h151
                  have hlo : mayP Λ c.2 m (decide (x ≤ nI (h % 12))) = decide (c.2 (8 + m) = no9) := by unfold mayP; rw [h131, decide_eq_false h146, h151]; simp
                  refine wp_ic (pc := 158) (x := nI 0) dX9_goHour_158 ic_0 ?_
                  refine wp_istore (pc := 159) (L' := [_, _, _, _, _, _, _, _, _]) dX9_goHour_159 (Nat.le_of_ble_eq_true rfl) rfl rfl ?_
                  refine wp_aload_n (pc := 161) dX9_goHour_161 rfl ?_
                  refine wp_bipush (pc := 162) (x := nI 8) dX9_goHour_162 bp_8 ?_
                  refine wp_iload (pc := 164) dX9_goHour_164 rfl ?_
                  refine wp_iadd (pc := 166) dX9_goHour_166 ?_
                  refine wf_iald (pc := 167) (j := (8 + m)) dX9_goHour_167 hpl (nI_add _ _) (by omega) ?_
                  rw [hd1.at (show 8 + m < 25 by omega)]
                  refine wp_bipush (pc := 168) (x := (-9)) dX9_goHour_168 bp_m9 ?_
                  refine wp_icmp_eq (pc := 170) 178 dX9_goHour_170 (by decide) (fun h170 => ?_) (fun h170 => ?_)
                  · have hmay : mayP Λ c.2 m (decide (x ≤ nI (h % 12))) = true := by first | (rw [hlo]; exact decide_eq_true h170) | exact hlo
                    refine wp_aload_n (pc := 178) dX9_goHour_178 rfl ?_
                    refine wp_bipush (pc := 179) (x := nI 19) dX9_goHour_179 bp_19 ?_
                    refine wp_iload (pc := 181) dX9_goHour_181 rfl ?_
                    refine wp_iadd (pc := 183) dX9_goHour_183 ?_
                    refine wp_ic (pc := 184) (x := nI 3) dX9_goHour_184 ic_3 ?_
                    refine wf_iast (pc := 185) (j := (19 + m)) dX9_goHour_185 hpl (nI_add _ _) (by omega) ?_
                    have hd2 := hd1.w (19 + m) (nI 3)
                    refine wp_iload (pc := 186) dX9_goHour_186 rfl ?_
                    refine wp_ic (pc := 188) (x := nI 1) dX9_goHour_188 ic_1 ?_
                    refine wp_iload (pc := 189) dX9_goHour_189 rfl ?_
                    refine wp_ishl (pc := 191) dX9_goHour_191 ?_
                    refine wp_ior (pc := 192) dX9_goHour_192 ?_
                    refine wp_istore (pc := 193) (L' := [_, _, _, _, _, _, _, _, _]) dX9_goHour_193 (Nat.le_of_ble_eq_true rfl) rfl rfl ?_
                    refine wp_aload_n (pc := 195) dX9_goHour_195 rfl ?_
                    refine wp_bipush (pc := 196) (x := nI 8) dX9_goHour_196 bp_8 ?_
                    refine wp_iload (pc := 198) dX9_goHour_198 rfl ?_
                    refine wp_iadd (pc := 200) dX9_goHour_200 ?_
                    refine wf_iald (pc := 201) (j := (8 + m)) dX9_goHour_201 hpl (nI_add _ _) (by omega) ?_
                    rw [show (wI M1 p (19 + m) (nI 3)).1 p (8 + m) = c.2 (8 + m) from (wI_nk (by omega)).trans (hd1.at (by omega))]
                    refine wp_bipush (pc := 202) (x := (-9)) dX9_goHour_202 bp_m9 ?_
                    refine wp_icmp_eq (pc := 204) 222 dX9_goHour_204 (by decide) (fun h204 => ?_) (fun h204 => ?_)
                    · have hst : hstP Λ (decide (x ≤ nI (h % 12))) (lRo Λ ((h + far) % 4)) c m = (c.1 ||| bit m, upd c.2 (19 + m) (nI 3)) := by unfold hstP catP; rw [if_neg n0, if_pos ⟨h119, hmay⟩, if_neg (fun q => q h204)]
                      skip
                      refine wp_iinc1 (pc := 222) (L' := [_, _, _, _, _, _, _, _, _]) dX9_goHour_222 rfl rfl rfl ?_
                      refine wp_goto (pc := 225) 39 dX9_goHour_225 (by decide) ?_
                      have hN := hst.symm.trans (show hstP Λ (decide (x ≤ nI (h % 12))) (lRo Λ ((h + far) % 4)) c m = hitP Λ (decide (x ≤ nI (h % 12))) (lRo Λ ((h + far) % 4)) (nI 0, P) (m + 1) by rw [hc]; rfl)
                      have ih3 := fun M' z' => ih (m + 1) M' _ z' (by omega) (by omega) hN
                      refine ih3 _ _ ?_ ?_
                      · first | exact hd1 | exact hd2 | exact hd3 | exact hd4
                      · first | exact s1 | exact s1.tr (Sm.w (by omega) (by omega)) | exact (s1.tr (Sm.w (by omega) (by omega))).tr (Sm.w (by omega) (by omega))
                    · obtain ⟨kd, hkd, ekd⟩ : ∃ d, d < lD Λ ∧ c.2 (8 + m) = nI d := ((o1.2.2.1 m (by omega)).1).resolve_left h204
                      have hst : hstP Λ (decide (x ≤ nI (h % 12))) (lRo Λ ((h + far) % 4)) c m = (c.1 ||| bit m, upd (upd c.2 (19 + m) (nI 3)) (4 + kd) (c.2 (4 + kd) + nI 2)) := by unfold hstP catP; rw [if_neg n0, if_pos ⟨h119, hmay⟩, if_pos h204, ekd, nI_cl (by omega)]
                      refine wp_aload_n (pc := 207) dX9_goHour_207 rfl ?_
                      refine wp_ic (pc := 208) (x := nI 4) dX9_goHour_208 ic_4 ?_
                      refine wp_aload_n (pc := 209) dX9_goHour_209 rfl ?_
                      refine wp_bipush (pc := 210) (x := nI 8) dX9_goHour_210 bp_8 ?_
                      refine wp_iload (pc := 212) dX9_goHour_212 rfl ?_
                      refine wp_iadd (pc := 214) dX9_goHour_214 ?_
                      refine wf_iald (pc := 215) (j := (8 + m)) dX9_goHour_215 hpl (nI_add _ _) (by omega) ?_
                      rw [show (wI M1 p (19 + m) (nI 3)).1 p (8 + m) = c.2 (8 + m) from (wI_nk (by omega)).trans (hd1.at (by omega)), ekd]
                      refine wp_iadd (pc := 216) dX9_goHour_216 ?_
                      refine wp_dup2 (pc := 217) dX9_goHour_217 rfl rfl ?_
                      refine wf_iald (pc := 218) (j := (4 + kd)) dX9_goHour_218 hpl (nI_add _ _) (by omega) ?_
                      rw [show (wI M1 p (19 + m) (nI 3)).1 p (4 + kd) = c.2 (4 + kd) from (wI_nk (by omega)).trans (hd1.at (by omega))]
                      refine wp_ic (pc := 219) (x := nI 2) dX9_goHour_219 ic_2 ?_
                      refine wp_iadd (pc := 220) dX9_goHour_220 ?_
                      have hd4 := hd2.w (4 + kd) (c.2 (4 + kd) + nI 2)
                      refine wf_iast (pc := 221) (j := (4 + kd)) dX9_goHour_221 hpl (nI_add _ _) (by omega) ?_
                      skip
                      refine wp_iinc1 (pc := 222) (L' := [_, _, _, _, _, _, _, _, _]) dX9_goHour_222 rfl rfl rfl ?_
                      refine wp_goto (pc := 225) 39 dX9_goHour_225 (by decide) ?_
                      have hN := hst.symm.trans (show hstP Λ (decide (x ≤ nI (h % 12))) (lRo Λ ((h + far) % 4)) c m = hitP Λ (decide (x ≤ nI (h % 12))) (lRo Λ ((h + far) % 4)) (nI 0, P) (m + 1) by rw [hc]; rfl)
                      have ih3 := fun M' z' => ih (m + 1) M' _ z' (by omega) (by omega) hN
                      refine ih3 _ _ ?_ ?_
                      · first | exact hd1 | exact hd2 | exact hd3 | exact hd4
                      · first | exact s1 | exact s1.tr (Sm.w (by omega) (by omega)) | exact (s1.tr (Sm.w (by omega) (by omega))).tr (Sm.w (by omega) (by omega))
                  · refine wp_iload (pc := 173) dX9_goHour_173 rfl ?_
                    refine wp_if_eq (pc := 175) 222 dX9_goHour_175 (by decide) (fun h175 => ?_) (fun h175 => ?_)
                    · have hst : hstP Λ (decide (x ≤ nI (h % 12))) (lRo Λ ((h + far) % 4)) c m = (c.1, c.2) := by unfold hstP; rw [if_neg n0, if_neg (fun q => by first | (rw [hlo, decide_eq_false h170] at q; exact absurd q.2 (by decide)) | exact absurd h175 (by decide))]
                      skip
                      refine wp_iinc1 (pc := 222) (L' := [_, _, _, _, _, _, _, _, _]) dX9_goHour_222 rfl rfl rfl ?_
                      refine wp_goto (pc := 225) 39 dX9_goHour_225 (by decide) ?_
                      have hN := hst.symm.trans (show hstP Λ (decide (x ≤ nI (h % 12))) (lRo Λ ((h + far) % 4)) c m = hitP Λ (decide (x ≤ nI (h % 12))) (lRo Λ ((h + far) % 4)) (nI 0, P) (m + 1) by rw [hc]; rfl)
                      have ih3 := fun M' z' => ih (m + 1) M' _ z' (by omega) (by omega) hN
                      refine ih3 _ _ ?_ ?_
                      · first | exact hd1 | exact hd2 | exact hd3 | exact hd4
                      · first | exact s1 | exact s1.tr (Sm.w (by omega) (by omega)) | exact (s1.tr (Sm.w (by omega) (by omega))).tr (Sm.w (by omega) (by omega))
                    · have hmay : mayP Λ c.2 m (decide (x ≤ nI (h % 12))) = true := by first | exact hlo | exact absurd rfl h175
                      refine wp_aload_n (pc := 178) dX9_goHour_178 rfl ?_
                      refine wp_bipush (pc := 179) (x := nI 19) dX9_goHour_179 bp_19 ?_
                      refine wp_iload (pc := 181) dX9_goHour_181 rfl ?_
                      refine wp_iadd (pc := 183) dX9_goHour_183 ?_
                      refine wp_ic (pc := 184) (x := nI 3) dX9_goHour_184 ic_3 ?_
                      refine wf_iast (pc := 185) (j := (19 + m)) dX9_goHour_185 hpl (nI_add _ _) (by omega) ?_
                      have hd2 := hd1.w (19 + m) (nI 3)
                      refine wp_iload (pc := 186) dX9_goHour_186 rfl ?_
                      refine wp_ic (pc := 188) (x := nI 1) dX9_goHour_188 ic_1 ?_
                      refine wp_iload (pc := 189) dX9_goHour_189 rfl ?_
                      refine wp_ishl (pc := 191) dX9_goHour_191 ?_
                      refine wp_ior (pc := 192) dX9_goHour_192 ?_
                      refine wp_istore (pc := 193) (L' := [_, _, _, _, _, _, _, _, _]) dX9_goHour_193 (Nat.le_of_ble_eq_true rfl) rfl rfl ?_
                      refine wp_aload_n (pc := 195) dX9_goHour_195 rfl ?_
                      refine wp_bipush (pc := 196) (x := nI 8) dX9_goHour_196 bp_8 ?_
                      refine wp_iload (pc := 198) dX9_goHour_198 rfl ?_
                      refine wp_iadd (pc := 200) dX9_goHour_200 ?_
                      refine wf_iald (pc := 201) (j := (8 + m)) dX9_goHour_201 hpl (nI_add _ _) (by omega) ?_
                      rw [show (wI M1 p (19 + m) (nI 3)).1 p (8 + m) = c.2 (8 + m) from (wI_nk (by omega)).trans (hd1.at (by omega))]
                      refine wp_bipush (pc := 202) (x := (-9)) dX9_goHour_202 bp_m9 ?_
                      refine wp_icmp_eq (pc := 204) 222 dX9_goHour_204 (by decide) (fun h204 => ?_) (fun h204 => ?_)
                      · have hst : hstP Λ (decide (x ≤ nI (h % 12))) (lRo Λ ((h + far) % 4)) c m = (c.1 ||| bit m, upd c.2 (19 + m) (nI 3)) := by unfold hstP catP; rw [if_neg n0, if_pos ⟨h119, hmay⟩, if_neg (fun q => q h204)]
                        skip
                        refine wp_iinc1 (pc := 222) (L' := [_, _, _, _, _, _, _, _, _]) dX9_goHour_222 rfl rfl rfl ?_
                        refine wp_goto (pc := 225) 39 dX9_goHour_225 (by decide) ?_
                        have hN := hst.symm.trans (show hstP Λ (decide (x ≤ nI (h % 12))) (lRo Λ ((h + far) % 4)) c m = hitP Λ (decide (x ≤ nI (h % 12))) (lRo Λ ((h + far) % 4)) (nI 0, P) (m + 1) by rw [hc]; rfl)
                        have ih3 := fun M' z' => ih (m + 1) M' _ z' (by omega) (by omega) hN
                        refine ih3 _ _ ?_ ?_
                        · first | exact hd1 | exact hd2 | exact hd3 | exact hd4
                        · first | exact s1 | exact s1.tr (Sm.w (by omega) (by omega)) | exact (s1.tr (Sm.w (by omega) (by omega))).tr (Sm.w (by omega) (by omega))
                      · obtain ⟨kd, hkd, ekd⟩ : ∃ d, d < lD Λ ∧ c.2 (8 + m) = nI d := ((o1.2.2.1 m (by omega)).1).resolve_left h204
                        have hst : hstP Λ (decide (x ≤ nI (h % 12))) (lRo Λ ((h + far) % 4)) c m = (c.1 ||| bit m, upd (upd c.2 (19 + m) (nI 3)) (4 + kd) (c.2 (4 + kd) + nI 2)) := by unfold hstP catP; rw [if_neg n0, if_pos ⟨h119, hmay⟩, if_pos h204, ekd, nI_cl (by omega)]
                        refine wp_aload_n (pc := 207) dX9_goHour_207 rfl ?_
                        refine wp_ic (pc := 208) (x := nI 4) dX9_goHour_208 ic_4 ?_
                        refine wp_aload_n (pc := 209) dX9_goHour_209 rfl ?_
                        refine wp_bipush (pc := 210) (x := nI 8) dX9_goHour_210 bp_8 ?_
                        refine wp_iload (pc := 212) dX9_goHour_212 rfl ?_
                        refine wp_iadd (pc := 214) dX9_goHour_214 ?_
                        refine wf_iald (pc := 215) (j := (8 + m)) dX9_goHour_215 hpl (nI_add _ _) (by omega) ?_
                        rw [show (wI M1 p (19 + m) (nI 3)).1 p (8 + m) = c.2 (8 + m) from (wI_nk (by omega)).trans (hd1.at (by omega)), ekd]
                        refine wp_iadd (pc := 216) dX9_goHour_216 ?_
                        refine wp_dup2 (pc := 217) dX9_goHour_217 rfl rfl ?_
                        refine wf_iald (pc := 218) (j := (4 + kd)) dX9_goHour_218 hpl (nI_add _ _) (by omega) ?_
                        rw [show (wI M1 p (19 + m) (nI 3)).1 p (4 + kd) = c.2 (4 + kd) from (wI_nk (by omega)).trans (hd1.at (by omega))]
                        refine wp_ic (pc := 219) (x := nI 2) dX9_goHour_219 ic_2 ?_
                        refine wp_iadd (pc := 220) dX9_goHour_220 ?_
                        have hd4 := hd2.w (4 + kd) (c.2 (4 + kd) + nI 2)
                        refine wf_iast (pc := 221) (j := (4 + kd)) dX9_goHour_221 hpl (nI_add _ _) (by omega) ?_
                        skip
                        refine wp_iinc1 (pc := 222) (L' := [_, _, _, _, _, _, _, _, _]) dX9_goHour_222 rfl rfl rfl ?_
                        refine wp_goto (pc := 225) 39 dX9_goHour_225 (by decide) ?_
                        have hN := hst.symm.trans (show hstP Λ (decide (x ≤ nI (h % 12))) (lRo Λ ((h + far) % 4)) c m = hitP Λ (decide (x ≤ nI (h % 12))) (lRo Λ ((h + far) % 4)) (nI 0, P) (m + 1) by rw [hc]; rfl)
                        have ih3 := fun M' z' => ih (m + 1) M' _ z' (by omega) (by omega) hN
                        refine ih3 _ _ ?_ ?_
                        · first | exact hd1 | exact hd2 | exact hd3 | exact hd4
                        · first | exact s1 | exact s1.tr (Sm.w (by omega) (by omega)) | exact (s1.tr (Sm.w (by omega) (by omega))).tr (Sm.w (by omega) (by omega))
                · have h151 := b2i_1 h151
                  have hlo : mayP Λ c.2 m (decide (x ≤ nI (h % 12))) = true := by unfold mayP; rw [h151]; simp [h131]
                  refine wp_ic (pc := 154) (x := nI 1) dX9_goHour_154 ic_1 ?_
                  refine wp_goto (pc := 155) 159 dX9_goHour_155 (by decide) ?_
                  refine wp_istore (pc := 159) (L' := [_, _, _, _, _, _, _, _, _]) dX9_goHour_159 (Nat.le_of_ble_eq_true rfl) rfl rfl ?_
                  refine wp_aload_n (pc := 161) dX9_goHour_161 rfl ?_
                  refine wp_bipush (pc := 162) (x := nI 8) dX9_goHour_162 bp_8 ?_
                  refine wp_iload (pc := 164) dX9_goHour_164 rfl ?_
                  refine wp_iadd (pc := 166) dX9_goHour_166 ?_
                  refine wf_iald (pc := 167) (j := (8 + m)) dX9_goHour_167 hpl (nI_add _ _) (by omega) ?_
                  rw [hd1.at (show 8 + m < 25 by omega)]
                  refine wp_bipush (pc := 168) (x := (-9)) dX9_goHour_168 bp_m9 ?_
                  refine wp_icmp_eq (pc := 170) 178 dX9_goHour_170 (by decide) (fun h170 => ?_) (fun h170 => ?_)
                  · have hmay : mayP Λ c.2 m (decide (x ≤ nI (h % 12))) = true := by first | (rw [hlo]; exact decide_eq_true h170) | exact hlo
                    refine wp_aload_n (pc := 178) dX9_goHour_178 rfl ?_
                    refine wp_bipush (pc := 179) (x := nI 19) dX9_goHour_179 bp_19 ?_
                    refine wp_iload (pc := 181) dX9_goHour_181 rfl ?_
                    refine wp_iadd (pc := 183) dX9_goHour_183 ?_
                    refine wp_ic (pc := 184) (x := nI 3) dX9_goHour_184 ic_3 ?_
                    refine wf_iast (pc := 185) (j := (19 + m)) dX9_goHour_185 hpl (nI_add _ _) (by omega) ?_
                    have hd2 := hd1.w (19 + m) (nI 3)
                    refine wp_iload (pc := 186) dX9_goHour_186 rfl ?_
                    refine wp_ic (pc := 188) (x := nI 1) dX9_goHour_188 ic_1 ?_
                    refine wp_iload (pc := 189) dX9_goHour_189 rfl ?_
                    refine wp_ishl (pc := 191) dX9_goHour_191 ?_
                    refine wp_ior (pc := 192) dX9_goHour_192 ?_
                    refine wp_istore (pc := 193) (L' := [_, _, _, _, _, _, _, _, _]) dX9_goHour_193 (Nat.le_of_ble_eq_true rfl) rfl rfl ?_
                    refine wp_aload_n (pc := 195) dX9_goHour_195 rfl ?_
                    refine wp_bipush (pc := 196) (x := nI 8) dX9_goHour_196 bp_8 ?_
                    refine wp_iload (pc := 198) dX9_goHour_198 rfl ?_
                    refine wp_iadd (pc := 200) dX9_goHour_200 ?_
                    refine wf_iald (pc := 201) (j := (8 + m)) dX9_goHour_201 hpl (nI_add _ _) (by omega) ?_
                    rw [show (wI M1 p (19 + m) (nI 3)).1 p (8 + m) = c.2 (8 + m) from (wI_nk (by omega)).trans (hd1.at (by omega))]
                    refine wp_bipush (pc := 202) (x := (-9)) dX9_goHour_202 bp_m9 ?_
                    refine wp_icmp_eq (pc := 204) 222 dX9_goHour_204 (by decide) (fun h204 => ?_) (fun h204 => ?_)
                    · have hst : hstP Λ (decide (x ≤ nI (h % 12))) (lRo Λ ((h + far) % 4)) c m = (c.1 ||| bit m, upd c.2 (19 + m) (nI 3)) := by unfold hstP catP; rw [if_neg n0, if_pos ⟨h119, hmay⟩, if_neg (fun q => q h204)]
                      skip
                      refine wp_iinc1 (pc := 222) (L' := [_, _, _, _, _, _, _, _, _]) dX9_goHour_222 rfl rfl rfl ?_
                      refine wp_goto (pc := 225) 39 dX9_goHour_225 (by decide) ?_
                      have hN := hst.symm.trans (show hstP Λ (decide (x ≤ nI (h % 12))) (lRo Λ ((h + far) % 4)) c m = hitP Λ (decide (x ≤ nI (h % 12))) (lRo Λ ((h + far) % 4)) (nI 0, P) (m + 1) by rw [hc]; rfl)
                      have ih3 := fun M' z' => ih (m + 1) M' _ z' (by omega) (by omega) hN
                      refine ih3 _ _ ?_ ?_
                      · first | exact hd1 | exact hd2 | exact hd3 | exact hd4
                      · first | exact s1 | exact s1.tr (Sm.w (by omega) (by omega)) | exact (s1.tr (Sm.w (by omega) (by omega))).tr (Sm.w (by omega) (by omega))
                    · obtain ⟨kd, hkd, ekd⟩ : ∃ d, d < lD Λ ∧ c.2 (8 + m) = nI d := ((o1.2.2.1 m (by omega)).1).resolve_left h204
                      have hst : hstP Λ (decide (x ≤ nI (h % 12))) (lRo Λ ((h + far) % 4)) c m = (c.1 ||| bit m, upd (upd c.2 (19 + m) (nI 3)) (4 + kd) (c.2 (4 + kd) + nI 2)) := by unfold hstP catP; rw [if_neg n0, if_pos ⟨h119, hmay⟩, if_pos h204, ekd, nI_cl (by omega)]
                      refine wp_aload_n (pc := 207) dX9_goHour_207 rfl ?_
                      refine wp_ic (pc := 208) (x := nI 4) dX9_goHour_208 ic_4 ?_
                      refine wp_aload_n (pc := 209) dX9_goHour_209 rfl ?_
                      refine wp_bipush (pc := 210) (x := nI 8) dX9_goHour_210 bp_8 ?_
                      refine wp_iload (pc := 212) dX9_goHour_212 rfl ?_
                      refine wp_iadd (pc := 214) dX9_goHour_214 ?_
                      refine wf_iald (pc := 215) (j := (8 + m)) dX9_goHour_215 hpl (nI_add _ _) (by omega) ?_
                      rw [show (wI M1 p (19 + m) (nI 3)).1 p (8 + m) = c.2 (8 + m) from (wI_nk (by omega)).trans (hd1.at (by omega)), ekd]
                      refine wp_iadd (pc := 216) dX9_goHour_216 ?_
                      refine wp_dup2 (pc := 217) dX9_goHour_217 rfl rfl ?_
                      refine wf_iald (pc := 218) (j := (4 + kd)) dX9_goHour_218 hpl (nI_add _ _) (by omega) ?_
                      rw [show (wI M1 p (19 + m) (nI 3)).1 p (4 + kd) = c.2 (4 + kd) from (wI_nk (by omega)).trans (hd1.at (by omega))]
                      refine wp_ic (pc := 219) (x := nI 2) dX9_goHour_219 ic_2 ?_
                      refine wp_iadd (pc := 220) dX9_goHour_220 ?_
                      have hd4 := hd2.w (4 + kd) (c.2 (4 + kd) + nI 2)
                      refine wf_iast (pc := 221) (j := (4 + kd)) dX9_goHour_221 hpl (nI_add _ _) (by omega) ?_
                      skip
                      refine wp_iinc1 (pc := 222) (L' := [_, _, _, _, _, _, _, _, _]) dX9_goHour_222 rfl rfl rfl ?_
                      refine wp_goto (pc := 225) 39 dX9_goHour_225 (by decide) ?_
                      have hN := hst.symm.trans (show hstP Λ (decide (x ≤ nI (h % 12))) (lRo Λ ((h + far) % 4)) c m = hitP Λ (decide (x ≤ nI (h % 12))) (lRo Λ ((h + far) % 4)) (nI 0, P) (m + 1) by rw [hc]; rfl)
                      have ih3 := fun M' z' => ih (m + 1) M' _ z' (by omega) (by omega) hN
                      refine ih3 _ _ ?_ ?_
                      · first | exact hd1 | exact hd2 | exact hd3 | exact hd4
                      · first | exact s1 | exact s1.tr (Sm.w (by omega) (by omega)) | exact (s1.tr (Sm.w (by omega) (by omega))).tr (Sm.w (by omega) (by omega))
                  · refine wp_iload (pc := 173) dX9_goHour_173 rfl ?_
                    refine wp_if_eq (pc := 175) 222 dX9_goHour_175 (by decide) (fun h175 => ?_) (fun h175 => ?_)
                    · have hst : hstP Λ (decide (x ≤ nI (h % 12))) (lRo Λ ((h + far) % 4)) c m = (c.1, c.2) := by unfold hstP; rw [if_neg n0, if_neg (fun q => by first | (rw [hlo, decide_eq_false h170] at q; exact absurd q.2 (by decide)) | exact absurd h175 (by decide))]
                      skip
                      refine wp_iinc1 (pc := 222) (L' := [_, _, _, _, _, _, _, _, _]) dX9_goHour_222 rfl rfl rfl ?_
                      refine wp_goto (pc := 225) 39 dX9_goHour_225 (by decide) ?_
                      have hN := hst.symm.trans (show hstP Λ (decide (x ≤ nI (h % 12))) (lRo Λ ((h + far) % 4)) c m = hitP Λ (decide (x ≤ nI (h % 12))) (lRo Λ ((h + far) % 4)) (nI 0, P) (m + 1) by rw [hc]; rfl)
                      have ih3 := fun M' z' => ih (m + 1) M' _ z' (by omega) (by omega) hN
                      refine ih3 _ _ ?_ ?_
                      · first | exact hd1 | exact hd2 | exact hd3 | exact hd4
                      · first | exact s1 | exact s1.tr (Sm.w (by omega) (by omega)) | exact (s1.tr (Sm.w (by omega) (by omega))).tr (Sm.w (by omega) (by omega))
                    · have hmay : mayP Λ c.2 m (decide (x ≤ nI (h % 12))) = true := by first | exact hlo | exact absurd rfl h175
                      refine wp_aload_n (pc := 178) dX9_goHour_178 rfl ?_
                      refine wp_bipush (pc := 179) (x := nI 19) dX9_goHour_179 bp_19 ?_
                      refine wp_iload (pc := 181) dX9_goHour_181 rfl ?_
                      refine wp_iadd (pc := 183) dX9_goHour_183 ?_
                      refine wp_ic (pc := 184) (x := nI 3) dX9_goHour_184 ic_3 ?_
                      refine wf_iast (pc := 185) (j := (19 + m)) dX9_goHour_185 hpl (nI_add _ _) (by omega) ?_
                      have hd2 := hd1.w (19 + m) (nI 3)
                      refine wp_iload (pc := 186) dX9_goHour_186 rfl ?_
                      refine wp_ic (pc := 188) (x := nI 1) dX9_goHour_188 ic_1 ?_
                      refine wp_iload (pc := 189) dX9_goHour_189 rfl ?_
                      refine wp_ishl (pc := 191) dX9_goHour_191 ?_
                      refine wp_ior (pc := 192) dX9_goHour_192 ?_
                      refine wp_istore (pc := 193) (L' := [_, _, _, _, _, _, _, _, _]) dX9_goHour_193 (Nat.le_of_ble_eq_true rfl) rfl rfl ?_
                      refine wp_aload_n (pc := 195) dX9_goHour_195 rfl ?_
                      refine wp_bipush (pc := 196) (x := nI 8) dX9_goHour_196 bp_8 ?_
                      refine wp_iload (pc := 198) dX9_goHour_198 rfl ?_
                      refine wp_iadd (pc := 200) dX9_goHour_200 ?_
                      refine wf_iald (pc := 201) (j := (8 + m)) dX9_goHour_201 hpl (nI_add _ _) (by omega) ?_
                      rw [show (wI M1 p (19 + m) (nI 3)).1 p (8 + m) = c.2 (8 + m) from (wI_nk (by omega)).trans (hd1.at (by omega))]
                      refine wp_bipush (pc := 202) (x := (-9)) dX9_goHour_202 bp_m9 ?_
                      refine wp_icmp_eq (pc := 204) 222 dX9_goHour_204 (by decide) (fun h204 => ?_) (fun h204 => ?_)
                      · have hst : hstP Λ (decide (x ≤ nI (h % 12))) (lRo Λ ((h + far) % 4)) c m = (c.1 ||| bit m, upd c.2 (19 + m) (nI 3)) := by unfold hstP catP; rw [if_neg n0, if_pos ⟨h119, hmay⟩, if_neg (fun q => q h204)]
                        skip
                        refine wp_iinc1 (pc := 222) (L' := [_, _, _, _, _, _, _, _, _]) dX9_goHour_222 rfl rfl rfl ?_
                        refine wp_goto (pc := 225) 39 dX9_goHour_225 (by decide) ?_
                        have hN := hst.symm.trans (show hstP Λ (decide (x ≤ nI (h % 12))) (lRo Λ ((h + far) % 4)) c m = hitP Λ (decide (x ≤ nI (h % 12))) (lRo Λ ((h + far) % 4)) (nI 0, P) (m + 1) by rw [hc]; rfl)
                        have ih3 := fun M' z' => ih (m + 1) M' _ z' (by omega) (by omega) hN
                        refine ih3 _ _ ?_ ?_
                        · first | exact hd1 | exact hd2 | exact hd3 | exact hd4
                        · first | exact s1 | exact s1.tr (Sm.w (by omega) (by omega)) | exact (s1.tr (Sm.w (by omega) (by omega))).tr (Sm.w (by omega) (by omega))
                      · obtain ⟨kd, hkd, ekd⟩ : ∃ d, d < lD Λ ∧ c.2 (8 + m) = nI d := ((o1.2.2.1 m (by omega)).1).resolve_left h204
                        have hst : hstP Λ (decide (x ≤ nI (h % 12))) (lRo Λ ((h + far) % 4)) c m = (c.1 ||| bit m, upd (upd c.2 (19 + m) (nI 3)) (4 + kd) (c.2 (4 + kd) + nI 2)) := by unfold hstP catP; rw [if_neg n0, if_pos ⟨h119, hmay⟩, if_pos h204, ekd, nI_cl (by omega)]
                        refine wp_aload_n (pc := 207) dX9_goHour_207 rfl ?_
                        refine wp_ic (pc := 208) (x := nI 4) dX9_goHour_208 ic_4 ?_
                        refine wp_aload_n (pc := 209) dX9_goHour_209 rfl ?_
                        refine wp_bipush (pc := 210) (x := nI 8) dX9_goHour_210 bp_8 ?_
                        refine wp_iload (pc := 212) dX9_goHour_212 rfl ?_
                        refine wp_iadd (pc := 214) dX9_goHour_214 ?_
                        refine wf_iald (pc := 215) (j := (8 + m)) dX9_goHour_215 hpl (nI_add _ _) (by omega) ?_
                        rw [show (wI M1 p (19 + m) (nI 3)).1 p (8 + m) = c.2 (8 + m) from (wI_nk (by omega)).trans (hd1.at (by omega)), ekd]
                        refine wp_iadd (pc := 216) dX9_goHour_216 ?_
                        refine wp_dup2 (pc := 217) dX9_goHour_217 rfl rfl ?_
                        refine wf_iald (pc := 218) (j := (4 + kd)) dX9_goHour_218 hpl (nI_add _ _) (by omega) ?_
                        rw [show (wI M1 p (19 + m) (nI 3)).1 p (4 + kd) = c.2 (4 + kd) from (wI_nk (by omega)).trans (hd1.at (by omega))]
                        refine wp_ic (pc := 219) (x := nI 2) dX9_goHour_219 ic_2 ?_
                        refine wp_iadd (pc := 220) dX9_goHour_220 ?_
                        have hd4 := hd2.w (4 + kd) (c.2 (4 + kd) + nI 2)
                        refine wf_iast (pc := 221) (j := (4 + kd)) dX9_goHour_221 hpl (nI_add _ _) (by omega) ?_
                        skip
                        refine wp_iinc1 (pc := 222) (L' := [_, _, _, _, _, _, _, _, _]) dX9_goHour_222 rfl rfl rfl ?_
                        refine wp_goto (pc := 225) 39 dX9_goHour_225 (by decide) ?_
                        have hN := hst.symm.trans (show hstP Λ (decide (x ≤ nI (h % 12))) (lRo Λ ((h + far) % 4)) c m = hitP Λ (decide (x ≤ nI (h % 12))) (lRo Λ ((h + far) % 4)) (nI 0, P) (m + 1) by rw [hc]; rfl)
                        have ih3 := fun M' z' => ih (m + 1) M' _ z' (by omega) (by omega) hN
                        refine ih3 _ _ ?_ ?_
                        · first | exact hd1 | exact hd2 | exact hd3 | exact hd4
                        · first | exact s1 | exact s1.tr (Sm.w (by omega) (by omega)) | exact (s1.tr (Sm.w (by omega) (by omega))).tr (Sm.w (by omega) (by omega))
        · have p0 : 0 < c.2 (19 + m) := Int32.not_le.mp h55
          have hs1 : 1 ≤ zs := lt0_nI (by rw [ez] at p0; exact p0) zs3
          refine wp_aload_n (pc := 58) dX9_goHour_58 rfl ?_
          refine wp_bipush (pc := 59) (x := nI 19) dX9_goHour_59 bp_19 ?_
          refine wp_iload (pc := 61) dX9_goHour_61 rfl ?_
          refine wp_iadd (pc := 63) dX9_goHour_63 ?_
          refine wp_dup2 (pc := 64) dX9_goHour_64 rfl rfl ?_
          refine wf_iald (pc := 65) (j := (19 + m)) dX9_goHour_65 hpl (nI_add _ _) (by omega) ?_
          rw [hd1.at (show 19 + m < 25 by omega)]
          refine wp_ic (pc := 66) (x := nI 1) dX9_goHour_66 ic_1 ?_
          refine wp_isub (pc := 67) dX9_goHour_67 ?_
          refine wf_iast (pc := 68) (j := (19 + m)) dX9_goHour_68 hpl (nI_add _ _) (by omega) ?_
          have hd2 := hd1.w (19 + m) (c.2 (19 + m) - nI 1)
          refine wp_aload_n (pc := 69) dX9_goHour_69 rfl ?_
          refine wp_bipush (pc := 70) (x := nI 19) dX9_goHour_70 bp_19 ?_
          refine wp_iload (pc := 72) dX9_goHour_72 rfl ?_
          refine wp_iadd (pc := 74) dX9_goHour_74 ?_
          refine wf_iald (pc := 75) (j := (19 + m)) dX9_goHour_75 hpl (nI_add _ _) (by omega) ?_
          rw [show (wI M1 p (19 + m) (c.2 (19 + m) - nI 1)).1 p (19 + m) = c.2 (19 + m) - nI 1 from wI_at _ _ _ _]
          refine wp_if_ne (pc := 76) 222 dX9_goHour_76 (by decide) (fun h76 => ?_) (fun h76 => ?_)
          · have hst : hstP Λ (decide (x ≤ nI (h % 12))) (lRo Λ ((h + far) % 4)) c m = (c.1, upd c.2 (19 + m) (c.2 (19 + m) - nI 1)) := by unfold hstP servP; rw [if_pos p0, if_neg (fun q => q.1 (by rw [ez, pk_sub hs1] at h76 ⊢; exact nI_lt (show 0 < zs - 1 by rcases Nat.eq_zero_or_pos (zs - 1) with w | w; rw [w] at h76; exact absurd rfl h76; exact w) (by omega)))]
            skip
            skip
            refine wp_iinc1 (pc := 222) (L' := [_, _, _, _, _, _, _, _, _]) dX9_goHour_222 rfl rfl rfl ?_
            refine wp_goto (pc := 225) 39 dX9_goHour_225 (by decide) ?_
            have hN := hst.symm.trans (show hstP Λ (decide (x ≤ nI (h % 12))) (lRo Λ ((h + far) % 4)) c m = hitP Λ (decide (x ≤ nI (h % 12))) (lRo Λ ((h + far) % 4)) (nI 0, P) (m + 1) by rw [hc]; rfl)
            have ih3 := fun M' z' => ih (m + 1) M' _ z' (by omega) (by omega) hN
            refine ih3 _ _ ?_ ?_
            · first | exact hd1 | exact hd2 | exact hd3 | exact hd4
            · first | exact s1 | exact s1.tr (Sm.w (by omega) (by omega)) | exact (s1.tr (Sm.w (by omega) (by omega))).tr (Sm.w (by omega) (by omega))
          · refine wp_aload_n (pc := 79) dX9_goHour_79 rfl ?_
            refine wp_bipush (pc := 80) (x := nI 8) dX9_goHour_80 bp_8 ?_
            refine wp_iload (pc := 82) dX9_goHour_82 rfl ?_
            refine wp_iadd (pc := 84) dX9_goHour_84 ?_
            refine wf_iald (pc := 85) (j := (8 + m)) dX9_goHour_85 hpl (nI_add _ _) (by omega) ?_
            rw [show (wI M1 p (19 + m) (c.2 (19 + m) - nI 1)).1 p (8 + m) = c.2 (8 + m) from (wI_nk (by omega)).trans (hd1.at (by omega))]
            refine wp_bipush (pc := 86) (x := (-9)) dX9_goHour_86 bp_m9 ?_
            refine wp_icmp_eq (pc := 88) 222 dX9_goHour_88 (by decide) (fun h88 => ?_) (fun h88 => ?_)
            · have hst : hstP Λ (decide (x ≤ nI (h % 12))) (lRo Λ ((h + far) % 4)) c m = (c.1, upd c.2 (19 + m) (c.2 (19 + m) - nI 1)) := by unfold hstP servP; rw [if_pos p0, if_neg (fun q => q.2 h88)]
              skip
              refine wp_iinc1 (pc := 222) (L' := [_, _, _, _, _, _, _, _, _]) dX9_goHour_222 rfl rfl rfl ?_
              refine wp_goto (pc := 225) 39 dX9_goHour_225 (by decide) ?_
              have hN := hst.symm.trans (show hstP Λ (decide (x ≤ nI (h % 12))) (lRo Λ ((h + far) % 4)) c m = hitP Λ (decide (x ≤ nI (h % 12))) (lRo Λ ((h + far) % 4)) (nI 0, P) (m + 1) by rw [hc]; rfl)
              have ih3 := fun M' z' => ih (m + 1) M' _ z' (by omega) (by omega) hN
              refine ih3 _ _ ?_ ?_
              · first | exact hd1 | exact hd2 | exact hd3 | exact hd4
              · first | exact s1 | exact s1.tr (Sm.w (by omega) (by omega)) | exact (s1.tr (Sm.w (by omega) (by omega))).tr (Sm.w (by omega) (by omega))
            · obtain ⟨kd, hkd, ekd⟩ : ∃ d, d < lD Λ ∧ c.2 (8 + m) = nI d := ((o1.2.2.1 m (by omega)).1).resolve_left h88
              have hst : hstP Λ (decide (x ≤ nI (h % 12))) (lRo Λ ((h + far) % 4)) c m = (c.1, upd (upd c.2 (19 + m) (c.2 (19 + m) - nI 1)) (13 + m) (c.2 kd)) := by unfold hstP servP; rw [if_pos p0, if_pos ⟨by rw [h76]; decide, h88⟩, ekd, nI_cl (by omega)]
              refine wp_aload_n (pc := 91) dX9_goHour_91 rfl ?_
              refine wp_bipush (pc := 92) (x := nI 13) dX9_goHour_92 bp_13 ?_
              refine wp_iload (pc := 94) dX9_goHour_94 rfl ?_
              refine wp_iadd (pc := 96) dX9_goHour_96 ?_
              refine wp_aload_n (pc := 97) dX9_goHour_97 rfl ?_
              refine wp_aload_n (pc := 98) dX9_goHour_98 rfl ?_
              refine wp_bipush (pc := 99) (x := nI 8) dX9_goHour_99 bp_8 ?_
              refine wp_iload (pc := 101) dX9_goHour_101 rfl ?_
              refine wp_iadd (pc := 103) dX9_goHour_103 ?_
              refine wf_iald (pc := 104) (j := (8 + m)) dX9_goHour_104 hpl (nI_add _ _) (by omega) ?_
              rw [show (wI M1 p (19 + m) (c.2 (19 + m) - nI 1)).1 p (8 + m) = c.2 (8 + m) from (wI_nk (by omega)).trans (hd1.at (by omega))]
              refine wf_iald (pc := 105) (j := kd) dX9_goHour_105 hpl ekd (by omega) ?_
              rw [show (wI M1 p (19 + m) (c.2 (19 + m) - nI 1)).1 p kd = c.2 kd from (wI_nk (by omega)).trans (hd1.at (by omega))]
              refine wf_iast (pc := 106) (j := (13 + m)) dX9_goHour_106 hpl (nI_add _ _) (by omega) ?_
              have hd3 := hd2.w (13 + m) (c.2 kd)
              refine wp_goto (pc := 107) 222 dX9_goHour_107 (by decide) ?_
              skip
              refine wp_iinc1 (pc := 222) (L' := [_, _, _, _, _, _, _, _, _]) dX9_goHour_222 rfl rfl rfl ?_
              refine wp_goto (pc := 225) 39 dX9_goHour_225 (by decide) ?_
              have hN := hst.symm.trans (show hstP Λ (decide (x ≤ nI (h % 12))) (lRo Λ ((h + far) % 4)) c m = hitP Λ (decide (x ≤ nI (h % 12))) (lRo Λ ((h + far) % 4)) (nI 0, P) (m + 1) by rw [hc]; rfl)
              have ih3 := fun M' z' => ih (m + 1) M' _ z' (by omega) (by omega) hN
              refine ih3 _ _ ?_ ?_
              · first | exact hd1 | exact hd2 | exact hd3 | exact hd4
              · first | exact s1 | exact s1.tr (Sm.w (by omega) (by omega)) | exact (s1.tr (Sm.w (by omega) (by omega))).tr (Sm.w (by omega) (by omega))
  refine wp_aload_n (pc := 0) dX9_goHour_0 rfl ?_
  refine wf_getR (pc := 1) dX9_goHour_1 fl_X9_17 lk_150 (hR 150 7 152 rfl) ?_
  refine wp_aload_n (pc := 4) dX9_goHour_4 rfl ?_
  refine wp_bipush (pc := 5) (x := nI 24) dX9_goHour_5 bp_24 ?_
  refine wf_iald (pc := 7) (j := 24) dX9_goHour_7 hpl rfl (by omega) ?_
  rw [hP.at (show 24 < 25 by omega), hO.1]
  refine wp_iload_n (pc := 8) dX9_goHour_8 rfl ?_
  refine wp_iadd (pc := 9) dX9_goHour_9 ?_
  refine wp_ic (pc := 10) (x := nI 4) dX9_goHour_10 ic_4 ?_
  refine wp_iremN (pc := 11) dX9_goHour_11 (nI_add _ _) rfl (by omega) (by decide) (by decide) ?_
  refine wf_iald (pc := 12) (j := ((h + far) % 4)) dX9_goHour_12 lk_152 rfl (by omega) ?_
  rw [hw.2.2.2.1 _ (by omega)]
  refine wp_istore (pc := 13) (L' := [_, _, _, _, _, _, _, _, _]) dX9_goHour_13 (Nat.le_of_ble_eq_true rfl) rfl rfl ?_
  refine wp_aload_n (pc := 15) dX9_goHour_15 rfl ?_
  refine wp_bipush (pc := 16) (x := nI 24) dX9_goHour_16 bp_24 ?_
  refine wf_iald (pc := 18) (j := 24) dX9_goHour_18 hpl rfl (by omega) ?_
  rw [hP.at (show 24 < 25 by omega), hO.1]
  refine wp_bipush (pc := 19) (x := nI 12) dX9_goHour_19 bp_12 ?_
  refine wp_iremN (pc := 21) dX9_goHour_21 rfl rfl (by omega) (by decide) (by decide) ?_
  refine wp_iload_n (pc := 22) dX9_goHour_22 rfl ?_
  refine wp_icmp_lt (pc := 23) 30 dX9_goHour_23 (by decide) (fun h23 => ?_) (fun h23 => ?_)
  · refine wp_ic (pc := 30) (x := nI 0) dX9_goHour_30 ic_0 ?_
    first | (refine wp_top (b2i (decide (x ≤ nI (h % 12)))) (by rw [decide_eq_true h23]; rfl) ?_) | (refine wp_top (b2i (decide (x ≤ nI (h % 12)))) (by rw [decide_eq_false (Int32.not_le.mpr h23)]; rfl) ?_) | (refine wp_top (b2i (decide (x ≤ nI (h % 12)))) (by rw [decide_eq_true (Int32.not_lt.mp h23)]; rfl) ?_)
    refine wp_istore (pc := 31) (L' := [_, _, _, _, _, _, _, _, _]) dX9_goHour_31 (Nat.le_of_ble_eq_true rfl) rfl rfl ?_
    refine wp_ic (pc := 33) (x := nI 0) dX9_goHour_33 ic_0 ?_
    refine wp_istore (pc := 34) (L' := [_, _, _, _, _, _, _, _, _]) dX9_goHour_34 (Nat.le_of_ble_eq_true rfl) rfl rfl ?_
    refine wp_ic (pc := 36) (x := nI 0) dX9_goHour_36 ic_0 ?_
    refine wp_istore (pc := 37) (L' := [_, _, _, _, _, _, _, _, _]) dX9_goHour_37 (Nat.le_of_ble_eq_true rfl) rfl rfl ?_
    exact loop (lM Λ) 0 M (nI 0, P) _ (by omega) (by omega) rfl hP Sm.rf
  · refine wp_ic (pc := 26) (x := nI 1) dX9_goHour_26 ic_1 ?_
    refine wp_goto (pc := 27) 31 dX9_goHour_27 (by decide) ?_
    first | (refine wp_top (b2i (decide (x ≤ nI (h % 12)))) (by rw [decide_eq_true h23]; rfl) ?_) | (refine wp_top (b2i (decide (x ≤ nI (h % 12)))) (by rw [decide_eq_false (Int32.not_le.mpr h23)]; rfl) ?_) | (refine wp_top (b2i (decide (x ≤ nI (h % 12)))) (by rw [decide_eq_true (Int32.not_lt.mp h23)]; rfl) ?_)
    refine wp_istore (pc := 31) (L' := [_, _, _, _, _, _, _, _, _]) dX9_goHour_31 (Nat.le_of_ble_eq_true rfl) rfl rfl ?_
    refine wp_ic (pc := 33) (x := nI 0) dX9_goHour_33 ic_0 ?_
    refine wp_istore (pc := 34) (L' := [_, _, _, _, _, _, _, _, _]) dX9_goHour_34 (Nat.le_of_ble_eq_true rfl) rfl rfl ?_
    refine wp_ic (pc := 36) (x := nI 0) dX9_goHour_36 ic_0 ?_
    refine wp_istore (pc := 37) (L' := [_, _, _, _, _, _, _, _, _]) dX9_goHour_37 (Nat.le_of_ble_eq_true rfl) rfl rfl ?_
    exact loop (lM Λ) 0 M (nI 0, P) _ (by omega) (by omega) rfl hP Sm.rf
