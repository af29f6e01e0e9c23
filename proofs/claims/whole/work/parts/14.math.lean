/-! rows on bits, shifts and unsigned numbers, to paste: each family out of a closed proof of our own, whole with what it rests on; each by itself clean at Lean in its own claim (generation 39, form 5). Take a family whole -/
/-! ===== Int32 by its bits: bt x i ===== -/
def bt (x : Int32) (i : Nat) : Bool := x.toBitVec.getLsbD i
theorem b_ext {x y : Int32} (h : ∀ i, i < 32 → bt x i = bt y i) : x = y := Int32.toBitVec_inj.mp (BitVec.eq_of_getLsbD_eq (fun i hi => h i hi))
theorem b_or (x y : Int32) (i : Nat) : bt (x ||| y) i = (bt x i || bt y i) := by unfold bt; rw [Int32.toBitVec_or, BitVec.getLsbD_or]
theorem b_and (x y : Int32) (i : Nat) : bt (x &&& y) i = (bt x i && bt y i) := by unfold bt; rw [Int32.toBitVec_and, BitVec.getLsbD_and]
theorem b_xor (x y : Int32) (i : Nat) : bt (x ^^^ y) i = (bt x i ^^ bt y i) := by unfold bt; rw [Int32.toBitVec_xor, BitVec.getLsbD_xor]
theorem b_big {x : Int32} {i : Nat} (h : 32 ≤ i) : bt x i = false := BitVec.getLsbD_of_ge _ _ h
theorem b_255 (i : Nat) : bt 255 i = decide (i < 8) := by
  rcases Nat.lt_or_ge i 32 with h | h
  · exact (by decide +kernel : ∀ i, i < 32 → bt 255 i = decide (i < 8)) i h
  · rw [b_big h, decide_eq_false (by omega)]
theorem b_65535 (i : Nat) : bt 65535 i = decide (i < 16) := by
  rcases Nat.lt_or_ge i 32 with h | h
  · exact (by decide +kernel : ∀ i, i < 32 → bt 65535 i = decide (i < 16)) i h
  · rw [b_big h, decide_eq_false (by omega)]
theorem b_m1 : ∀ i, i < 32 → bt (-1) i = true := by decide +kernel
theorem b_0 (i : Nat) : bt 0 i = false := BitVec.getLsbD_zero
theorem s_l : ∀ n, n < 32 → ((nI n &&& 31).toBitVec.smod 32).toNat = n := by decide +kernel
theorem s_u : ∀ n, n < 32 → (((nI n).toUInt32 &&& Int32.toUInt32 31).toBitVec % 32).toNat = n := by decide +kernel
theorem b_shl (n : Nat) (hn : n < 32) (x : Int32) {i : Nat} (hi : i < 32) : bt (x <<< (nI n &&& 31)) i = (decide (n ≤ i) && bt x (i - n)) := by
  unfold bt
  rw [Int32.toBitVec_shiftLeft]
  show (x.toBitVec <<< ((nI n &&& 31).toBitVec.smod 32).toNat).getLsbD i = _
  rw [s_l n hn, BitVec.getLsbD_shiftLeft]
  rcases Nat.lt_or_ge i n with h | h
  · simp [h, Nat.not_le.mpr h]
  · simp [hi, h, Nat.not_lt.mpr h]
theorem b_ushr (n : Nat) (hn : n < 32) (x : Int32) (i : Nat) : bt ((x.toUInt32 >>> ((nI n).toUInt32 &&& Int32.toUInt32 31)).toInt32) i = bt x (n + i) := by
  show (x.toUInt32 >>> ((nI n).toUInt32 &&& Int32.toUInt32 31)).toBitVec.getLsbD i = x.toUInt32.toBitVec.getLsbD (n + i)
  rw [UInt32.toBitVec_shiftRight]
  show (x.toUInt32.toBitVec >>> (((nI n).toUInt32 &&& Int32.toUInt32 31).toBitVec % 32).toNat).getLsbD i = _
  rw [s_u n hn, BitVec.getLsbD_ushiftRight]
theorem b_sshr (n : Nat) (hn : n < 32) (x : Int32) {i : Nat} (hi : i < 32) : bt (x >>> (nI n &&& 31)) i = if n + i < 32 then bt x (n + i) else bt x 31 := by
  unfold bt
  rw [Int32.toBitVec_shiftRight]
  show (x.toBitVec.sshiftRight ((nI n &&& 31).toBitVec.smod 32).toNat).getLsbD i = _
  rw [s_l n hn, BitVec.getLsbD_sshiftRight, BitVec.msb_eq_getLsbD_last]
  simp [hi]
theorem b_shl8 (x : Int32) {i : Nat} (hi : i < 32) : bt (x <<< ((8 : Int32) &&& 31)) i = (decide (8 ≤ i) && bt x (i - 8)) := b_shl 8 (by omega) x hi
theorem b_shl16 (x : Int32) {i : Nat} (hi : i < 32) : bt (x <<< ((16 : Int32) &&& 31)) i = (decide (16 ≤ i) && bt x (i - 16)) := b_shl 16 (by omega) x hi
theorem b_shl24 (x : Int32) {i : Nat} (hi : i < 32) : bt (x <<< ((24 : Int32) &&& 31)) i = (decide (24 ≤ i) && bt x (i - 24)) := b_shl 24 (by omega) x hi
theorem b_sshr8 (x : Int32) {i : Nat} (hi : i < 32) : bt (x >>> ((8 : Int32) &&& 31)) i = if 8 + i < 32 then bt x (8 + i) else bt x 31 := b_sshr 8 (by omega) x hi
/-! ===== nI under and, xor, >>>, one bit, 65535 ===== -/
theorem nx_and (a b : Nat) : nI a &&& nI b = nI (a &&& b) := by
  apply Int32.toBitVec_inj.1
  show BitVec.ofNat 32 a &&& BitVec.ofNat 32 b = BitVec.ofNat 32 (a &&& b)
  apply BitVec.eq_of_getLsbD_eq
  intro i hi
  simp [hi]
theorem nx_xor (a b : Nat) : nI a ^^^ nI b = nI (a ^^^ b) := by
  apply Int32.toBitVec_inj.1
  show BitVec.ofNat 32 a ^^^ BitVec.ofNat 32 b = BitVec.ofNat 32 (a ^^^ b)
  apply BitVec.eq_of_getLsbD_eq
  intro i hi
  simp [hi]
/-! what a law, a town are, as numbers -/
abbrev Pg : Type := Nat → Int32
/-- a law: how many dogs, men; leash; round, rank, room, parent, who sings -/
abbrev Lw : Type := Nat × Nat × Int32 × Pg × Pg × Pg × Pg × Pg
abbrev lD (Λ : Lw) : Nat := Λ.1
abbrev lM (Λ : Lw) : Nat := Λ.2.1
abbrev lLe (Λ : Lw) : Int32 := Λ.2.2.1
abbrev lRo (Λ : Lw) : Pg := Λ.2.2.2.1
abbrev lRa (Λ : Lw) : Pg := Λ.2.2.2.2.1
abbrev lRm (Λ : Lw) : Pg := Λ.2.2.2.2.2.1
abbrev lPa (Λ : Lw) : Pg := Λ.2.2.2.2.2.2.1
abbrev lSi (Λ : Lw) : Pg := Λ.2.2.2.2.2.2.2
/-- nobody: -9 -/
abbrev no9 : Int32 := -9
def inD (x : Int32) (n : Nat) : Bool := !decide (x < 0) && !decide (nI n ≤ x)
theorem inD_of {x : Int32} {n : Nat} (h : inD x n = true) (hn : n < 2 ^ 31) : ∃ j, j < n ∧ x = nI j := by
  simp only [inD, Bool.and_eq_true, Bool.not_eq_true', decide_eq_false_iff_not] at h
  obtain ⟨j, hj, rfl⟩ := nI_of h.1
  refine ⟨j, ?_, rfl⟩
  rcases Nat.lt_or_ge j n with q | q
  · exact q
  · exact absurd (nI_le q hj) h.2
theorem inD_nI {j n : Nat} (hn : n < 2 ^ 31) (hj : j < n) : inD (nI j) n = true := by
  simp only [inD, Bool.and_eq_true, Bool.not_eq_true', decide_eq_false_iff_not]
  exact ⟨nI_pos (by omega), nI_ge hj hn⟩
theorem inD_no {n : Nat} : inD no9 n = false := by
  have : no9 < 0 := by decide
  simp [inD, this]
/-- one bit -/
abbrev bit (m : Nat) : Int32 := nI 1 <<< (nI m &&& 31)
abbrev bat (x : Int32) (m : Nat) : Int32 := (x >>> (nI m &&& 31)) &&& nI 1
/-- what holds of a law -/
def OkL (Λ : Lw) : Prop := lD Λ ≤ 4 ∧ lM Λ ≤ 5 ∧ (∃ h, h ≤ 12 ∧ lLe Λ = nI h) ∧ (∀ i, i < 4 → ∃ s, s < 5 ∧ lRo Λ i = nI s) ∧
  (∀ d, d < lD Λ → (∃ r, r ≤ 9 ∧ lRa Λ d = nI r) ∧ (∃ r, 1 ≤ r ∧ r ≤ 3 ∧ lRm Λ d = nI r) ∧ (lPa Λ d = no9 ∨ ∃ q, q < lD Λ ∧ lPa Λ d = nI q)) ∧ (∀ m, m < lM Λ → lSi Λ m = nI 0 ∨ lSi Λ m = nI 1)
/-- how many dogs and men at most -/
def OkN (Λ : Lw) : Prop := lD Λ ≤ 4 ∧ lM Λ ≤ 5 ∧ True
theorem OkL.N {Λ : Lw} (h : OkL Λ) : OkN Λ := ⟨h.1, h.2.1, trivial⟩
/-- what holds of a town: a page of 25 numbers: 0 streets of dogs, 4 bones, 8 keepers, 13 streets of men, 18 who is leashed, 19 sentences, 24 the hour -/
def OkP (Λ : Lw) (P : Pg) (h : Nat) : Prop := P 24 = nI h ∧ (∀ d, d < lD Λ → ∃ s, s < 5 ∧ P d = nI s) ∧
  (∀ m, m < lM Λ → (P (8 + m) = no9 ∨ ∃ d, d < lD Λ ∧ P (8 + m) = nI d) ∧ (∃ s, s < 5 ∧ P (13 + m) = nI s) ∧ (∃ s, s ≤ 3 ∧ P (19 + m) = nI s) ∧ (∀ d, d < lD Λ → P (8 + m) = nI d → P (19 + m) = nI 0 → P (13 + m) = P d)) ∧
  (∀ d, lD Λ ≤ d → d < 4 → P d = 0 ∧ P (4 + d) = 0) ∧ (∀ m, lM Λ ≤ m → m < 5 → P (8 + m) = 0 ∧ P (13 + m) = 0 ∧ P (19 + m) = 0)
/-- a law at the cell w of the class -/
def XL (M : Mm) (w : Nat) (Λ : Lw) : Prop := M.1 w 0 = nI (lD Λ) ∧ M.1 w 1 = nI (lM Λ) ∧ M.1 w 2 = lLe Λ ∧ (∀ m, m < lM Λ → (bat (M.1 w 3) m = nI 1 ↔ lSi Λ m = nI 1)) ∧ (∀ i, i < 4 → M.1 (w + 1) i = lRo Λ i) ∧
  ∀ d, d < lD Λ → M.1 (w + 2) d = lRa Λ d ∧ M.1 (w + 3) d = lRm Λ d ∧ M.1 (w + 4) d = lPa Λ d
/-- a town at the cell t of the class -/
def XT (M : Mm) (t : Nat) (Λ : Lw) (P : Pg) : Prop := M.1 t 0 = P 24 ∧ M.1 t 1 = P 18 ∧ (∀ d, d < lD Λ → M.1 (t + 1) d = P d ∧ M.1 (t + 2) d = P (4 + d)) ∧
  ∀ m, m < lM Λ → M.1 (t + 3) m = P (8 + m) ∧ M.1 (t + 4) m = P (13 + m) ∧ M.1 (t + 5) m = P (19 + m)
/-- a page at the cell p of the reference, from the place o on -/
def MT (M : Mm) (p o : Nat) (P : Pg) : Prop := ∀ j, j < 25 → M.1 p (o + j) = P j
/-- the same but for the cells lo .. hi - 1 -/
def Sm (lo hi : Nat) (M M' : Mm) : Prop := M'.2 = M.2 ∧ ∀ a, (a < lo ∨ hi ≤ a) → ∀ k, M'.1 a k = M.1 a k
theorem Sm.rf {lo hi : Nat} {M : Mm} : Sm lo hi M M := ⟨rfl, fun _ _ _ => rfl⟩
theorem Sm.tr {lo hi : Nat} {M M1 M2 : Mm} (h1 : Sm lo hi M M1) (h2 : Sm lo hi M1 M2) : Sm lo hi M M2 := ⟨h2.1.trans h1.1, fun a ha k => (h2.2 a ha k).trans (h1.2 a ha k)⟩
theorem Sm.up {lo hi lo' hi' : Nat} {M M1 : Mm} (h : Sm lo hi M M1) (hl : lo' ≤ lo) (hh : hi ≤ hi') : Sm lo' hi' M M1 := ⟨h.1, fun a ha k => h.2 a (by omega) k⟩
theorem Sm.w {lo hi a k : Nat} {M : Mm} {x : Int32} (h1 : lo ≤ a) (h2 : a < hi) : Sm lo hi M (wI M a k x) := ⟨rfl, fun b hb j => by simp [wI, show b ≠ a by omega]⟩
theorem Sm.c {lo hi a0 sp a dp n : Nat} {M : Mm} (h1 : lo ≤ a) (h2 : a < hi) : Sm lo hi M (wC M a0 sp a dp n) := ⟨rfl, fun b hb j => by simp [wC, show b ≠ a by omega]⟩
theorem Sm.rs {lo hi : Nat} {M M' : Mm} (h : Sm lo hi M M') (hR : RS M) : RS M' := hR.of (by rw [h.1])
theorem wI_at (M : Mm) (a k : Nat) (x : Int32) : (wI M a k x).1 a k = x := by simp [wI]
theorem wI_nk {M : Mm} {a k j : Nat} {x : Int32} (h : j ≠ k) : (wI M a k x).1 a j = M.1 a j := by simp [wI, h]
theorem wI_na {M : Mm} {a k b j : Nat} {x : Int32} (h : b ≠ a) : (wI M a k x).1 b j = M.1 b j := by simp [wI, h]
theorem XT.sm {M M' : Mm} {lo hi t : Nat} {Λ : Lw} {P : Pg} (h : XT M t Λ P) (s : Sm lo hi M M') (ho : t + 6 ≤ lo ∨ hi ≤ t) : XT M' t Λ P := by
  obtain ⟨h1, h2, h3, h4⟩ := h
  have e : ∀ i, i < 6 → ∀ k, M'.1 (t + i) k = M.1 (t + i) k := fun i hi k => s.2 _ (by omega) k
  refine ⟨(e 0 (by omega) 0).trans h1, (e 0 (by omega) 1).trans h2, fun d hd => ?_, fun m hm => ?_⟩
  · rw [e 1 (by omega), e 2 (by omega)]; exact h3 d hd
  · rw [e 3 (by omega), e 4 (by omega), e 5 (by omega)]; exact h4 m hm
theorem XL.sm {M M' : Mm} {lo hi w : Nat} {Λ : Lw} (h : XL M w Λ) (s : Sm lo hi M M') (ho : w + 5 ≤ lo ∨ hi ≤ w) : XL M' w Λ := by
  obtain ⟨h1, h2, h3, h4, h5, h6⟩ := h
  have e : ∀ i, i < 5 → ∀ k, M'.1 (w + i) k = M.1 (w + i) k := fun i hi k => s.2 _ (by omega) k
  have e0 := e 0 (by omega)
  rw [Nat.add_zero] at e0
  refine ⟨(e0 0).trans h1, (e0 1).trans h2, (e0 2).trans h3, fun m hm => ?_, fun i hi => ?_, fun d hd => ?_⟩
  · rw [e0 3]; exact h4 m hm
  · rw [e 1 (by omega)]; exact h5 i hi
  · rw [e 2 (by omega), e 3 (by omega), e 4 (by omega)]; exact h6 d hd
/-! one place of a town written: the page has it -/
theorem XT.hour {M : Mm} {t : Nat} {Λ : Lw} {P : Pg} (h : XT M t Λ P) (hL : lD Λ ≤ 4 ∧ lM Λ ≤ 5) (x : Int32) : XT (wI M t 0 x) t Λ (upd P 24 x) := by
  obtain ⟨h1, h2, h3, h4⟩ := h
  refine ⟨by simp [wI, upd], by simp [wI, upd, h2], fun d hd => ?_, fun m hm => ?_⟩
  · have := h3 d hd
    simp [wI, upd, this, show d ≠ 24 by omega, show 4 + d ≠ 24 by omega]
  · have := h4 m hm
    simp [wI, upd, this, show 8 + m ≠ 24 by omega, show 13 + m ≠ 24 by omega, show 19 + m ≠ 24 by omega]
theorem XT.leash {M : Mm} {t : Nat} {Λ : Lw} {P : Pg} (h : XT M t Λ P) (hL : lD Λ ≤ 4 ∧ lM Λ ≤ 5) (x : Int32) : XT (wI M t 1 x) t Λ (upd P 18 x) := by
  obtain ⟨h1, h2, h3, h4⟩ := h
  refine ⟨by simp [wI, upd, h1], by simp [wI, upd], fun d hd => ?_, fun m hm => ?_⟩
  · have := h3 d hd
    simp [wI, upd, this, show d ≠ 18 by omega, show 4 + d ≠ 18 by omega]
  · have := h4 m hm
    simp [wI, upd, this, show 8 + m ≠ 18 by omega, show 13 + m ≠ 18 by omega, show 19 + m ≠ 18 by omega]
theorem XT.dog {M : Mm} {t d0 : Nat} {Λ : Lw} {P : Pg} (h : XT M t Λ P) (hL : lD Λ ≤ 4 ∧ lM Λ ≤ 5) (hd0 : d0 < 4) (x : Int32) : XT (wI M (t + 1) d0 x) t Λ (upd P d0 x) := by
  obtain ⟨h1, h2, h3, h4⟩ := h
  refine ⟨by simp [wI, upd, h1, show (24 : Nat) ≠ d0 by omega], by simp [wI, upd, h2, show (18 : Nat) ≠ d0 by omega], fun d hd => ?_, fun m hm => ?_⟩
  · have := h3 d hd
    simp [wI, upd, this, show 4 + d ≠ d0 by omega]
  · have := h4 m hm
    simp [wI, upd, this, show 8 + m ≠ d0 by omega, show 13 + m ≠ d0 by omega, show 19 + m ≠ d0 by omega]
theorem XT.bone {M : Mm} {t d0 : Nat} {Λ : Lw} {P : Pg} (h : XT M t Λ P) (hL : lD Λ ≤ 4 ∧ lM Λ ≤ 5) (hd0 : d0 < 4) (x : Int32) : XT (wI M (t + 2) d0 x) t Λ (upd P (4 + d0) x) := by
  obtain ⟨h1, h2, h3, h4⟩ := h
  refine ⟨by simp [wI, upd, h1, show (24 : Nat) ≠ 4 + d0 by omega], by simp [wI, upd, h2, show (18 : Nat) ≠ 4 + d0 by omega], fun d hd => ?_, fun m hm => ?_⟩
  · have := h3 d hd
    simp [wI, upd, this, show d ≠ 4 + d0 by omega]
  · have := h4 m hm
    simp [wI, upd, this, show 8 + m ≠ 4 + d0 by omega, show 13 + m ≠ 4 + d0 by omega, show 19 + m ≠ 4 + d0 by omega]
theorem XT.keeper {M : Mm} {t m0 : Nat} {Λ : Lw} {P : Pg} (h : XT M t Λ P) (hL : lD Λ ≤ 4 ∧ lM Λ ≤ 5) (hm0 : m0 < 5) (x : Int32) : XT (wI M (t + 3) m0 x) t Λ (upd P (8 + m0) x) := by
  obtain ⟨h1, h2, h3, h4⟩ := h
  refine ⟨by simp [wI, upd, h1, show (24 : Nat) ≠ 8 + m0 by omega], by simp [wI, upd, h2, show (18 : Nat) ≠ 8 + m0 by omega], fun d hd => ?_, fun m hm => ?_⟩
  · have := h3 d hd
    simp [wI, upd, this, show d ≠ 8 + m0 by omega, show 4 + d ≠ 8 + m0 by omega]
  · have := h4 m hm
    simp [wI, upd, this, show 13 + m ≠ 8 + m0 by omega, show 19 + m ≠ 8 + m0 by omega]
theorem XT.man {M : Mm} {t m0 : Nat} {Λ : Lw} {P : Pg} (h : XT M t Λ P) (hL : lD Λ ≤ 4 ∧ lM Λ ≤ 5) (hm0 : m0 < 5) (x : Int32) : XT (wI M (t + 4) m0 x) t Λ (upd P (13 + m0) x) := by
  obtain ⟨h1, h2, h3, h4⟩ := h
  refine ⟨by simp [wI, upd, h1, show (24 : Nat) ≠ 13 + m0 by omega], by simp [wI, upd, h2, show (18 : Nat) ≠ 13 + m0 by omega], fun d hd => ?_, fun m hm => ?_⟩
  · have := h3 d hd
    simp [wI, upd, this, show d ≠ 13 + m0 by omega, show 4 + d ≠ 13 + m0 by omega]
  · have := h4 m hm
    simp [wI, upd, this, show 8 + m ≠ 13 + m0 by omega, show 19 + m ≠ 13 + m0 by omega]
theorem XT.sent {M : Mm} {t m0 : Nat} {Λ : Lw} {P : Pg} (h : XT M t Λ P) (hL : lD Λ ≤ 4 ∧ lM Λ ≤ 5) (hm0 : m0 < 5) (x : Int32) : XT (wI M (t + 5) m0 x) t Λ (upd P (19 + m0) x) := by
  obtain ⟨h1, h2, h3, h4⟩ := h
  refine ⟨by simp [wI, upd, h1, show (24 : Nat) ≠ 19 + m0 by omega], by simp [wI, upd, h2, show (18 : Nat) ≠ 19 + m0 by omega], fun d hd => ?_, fun m hm => ?_⟩
  · have := h3 d hd
    simp [wI, upd, this, show d ≠ 19 + m0 by omega, show 4 + d ≠ 19 + m0 by omega]
  · have := h4 m hm
    simp [wI, upd, this, show 8 + m ≠ 19 + m0 by omega, show 13 + m ≠ 19 + m0 by omega]
/-! the acts of a town -/
/-- a street by a way: 0 stays, 1 on, 2 back -/
def stN (s w : Nat) : Nat := (s + (if w = 2 then 4 else w)) % 5
def sN (P : Pg) (d : Nat) : Nat := (P d).toNatClampNeg
/-- the first i men have gone with the dog d to the street s -/
def goPn (P : Pg) (d s i : Nat) : Pg := fun j => if j = d then nI s else if 13 ≤ j ∧ j < 13 + i ∧ P (8 + (j - 13)) = nI d ∧ ¬ 0 < P (19 + (j - 13)) then nI s else P j
def goP (Λ : Lw) (P : Pg) (d w : Nat) : Pg := goPn P d (stN (sN P d) w) (lM Λ)
/-- a man's hour behind bars -/
def servP (P : Pg) (m : Nat) : Pg :=
  if ¬ 0 < P (19 + m) - nI 1 ∧ P (8 + m) ≠ no9 then upd (upd P (19 + m) (P (19 + m) - nI 1)) (13 + m) (P (P (8 + m)).toNatClampNeg) else upd P (19 + m) (P (19 + m) - nI 1)
/-- a man is caught -/
def catP (P : Pg) (m : Nat) : Pg :=
  if P (8 + m) ≠ no9 then upd (upd P (19 + m) (nI 3)) (4 + (P (8 + m)).toNatClampNeg) (P (4 + (P (8 + m)).toNatClampNeg) + nI 2) else upd P (19 + m) (nI 3)
def mayP (Λ : Lw) (P : Pg) (m : Nat) (late : Bool) : Bool := decide (P (8 + m) = no9) || (!decide (bat (P 18) m = nI 1) && (late || decide (lSi Λ m = nI 1)))
def hstP (Λ : Lw) (late : Bool) (wd : Int32) (c : Int32 × Pg) (m : Nat) : Int32 × Pg :=
  if 0 < c.2 (19 + m) then (c.1, servP c.2 m) else if c.2 (13 + m) = wd ∧ mayP Λ c.2 m late = true then (c.1 ||| bit m, catP c.2 m) else c
def hitP (Λ : Lw) (late : Bool) (wd : Int32) (c : Int32 × Pg) : Nat → Int32 × Pg
  | 0 => c
  | m + 1 => hstP Λ late wd (hitP Λ late wd c m) m
/-- an hour, by a leash, the round so many farther, at the hour h: who is caught, and the page -/
def hourP (Λ : Lw) (P : Pg) (h far : Nat) (by_ : Int32) : Int32 × Pg :=
  let c := hitP Λ (decide (by_ ≤ nI (h % 12))) (lRo Λ ((h + far) % 4)) (nI 0, P) (lM Λ)
  (c.1, upd c.2 24 (c.2 24 + nI 1))
