theorem c_X7_isImpounded {l : Launch} {K : CtxT} {M : Mm} {t m : Nat} (hT : IT t) (hR : RS M) (hm : m < 5) : Ci l K 0 mX7_isImpounded [.ref (K.1 + t), .int (nI m)] M (fun r M' => r = b2i (decide (0 < M.1 (t + 5) m)) ∧ M' = M) := by
  refine ci_of (L := [some (.ref (K.1 + t)), some (.int (nI m))]) (by decide +kernel) (Nat.le_of_ble_eq_true rfl) rfl rfl (fun E => ?_)
  refine wp_aload_n (pc := 0) dX7_isImpounded_0 rfl ?_
  refine wf_getR (pc := 1) dX7_isImpounded_1 fl_X7_31 hT.1 (hR _ _ _ (rt_T6 hT)) ?_
  refine wp_iload_n (pc := 4) dX7_isImpounded_4 rfl ?_
  refine wf_iald (pc := 5) (j := m) dX7_isImpounded_5 hT.2.2.2.2.2 rfl (by omega) ?_
  refine wp_if_le (pc := 6) 13 dX7_isImpounded_6 (by decide) (fun h6 => ?_) (fun h6 => ?_)
  · refine wp_ic (pc := 13) (x := nI 0) dX7_isImpounded_13 ic_0 ?_
    refine wf_zret (pc := 14) (false) dX7_isImpounded_14 rfl rfl ?_
    exact ⟨by simp [*, b2i], rfl⟩
  · refine wp_ic (pc := 9) (x := nI 1) dX7_isImpounded_9 ic_1 ?_
    refine wp_goto (pc := 10) 14 dX7_isImpounded_10 (by decide) ?_
    refine wf_zret (pc := 14) (true) dX7_isImpounded_14 rfl rfl ?_
    exact ⟨by simp [*, b2i], rfl⟩
