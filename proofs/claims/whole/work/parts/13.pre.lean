/-! constants as the walk writes them -/
theorem bp_m9 : (Int8.ofInt (-9)).toInt32 = (-9 : Int32) := by decide +kernel
theorem bp_m4 : (Int8.ofInt (-4)).toInt32 = (-4 : Int32) := by decide +kernel
theorem bp_m3 : (Int8.ofInt (-3)).toInt32 = (-3 : Int32) := by decide +kernel
theorem bp_m2 : (Int8.ofInt (-2)).toInt32 = (-2 : Int32) := by decide +kernel
theorem bp_6 : (Int8.ofInt (6)).toInt32 = nI 6 := by decide +kernel
theorem bp_7 : (Int8.ofInt (7)).toInt32 = nI 7 := by decide +kernel
theorem bp_8 : (Int8.ofInt (8)).toInt32 = nI 8 := by decide +kernel
theorem bp_9 : (Int8.ofInt (9)).toInt32 = nI 9 := by decide +kernel
theorem bp_10 : (Int8.ofInt (10)).toInt32 = nI 10 := by decide +kernel
theorem bp_12 : (Int8.ofInt (12)).toInt32 = nI 12 := by decide +kernel
theorem bp_13 : (Int8.ofInt (13)).toInt32 = nI 13 := by decide +kernel
theorem bp_14 : (Int8.ofInt (14)).toInt32 = nI 14 := by decide +kernel
theorem bp_15 : (Int8.ofInt (15)).toInt32 = nI 15 := by decide +kernel
theorem bp_16 : (Int8.ofInt (16)).toInt32 = nI 16 := by decide +kernel
theorem bp_18 : (Int8.ofInt (18)).toInt32 = nI 18 := by decide +kernel
theorem bp_19 : (Int8.ofInt (19)).toInt32 = nI 19 := by decide +kernel
theorem bp_24 : (Int8.ofInt (24)).toInt32 = nI 24 := by decide +kernel
theorem bp_25 : (Int8.ofInt (25)).toInt32 = nI 25 := by decide +kernel
theorem bp_30 : (Int8.ofInt (30)).toInt32 = nI 30 := by decide +kernel
theorem bp_31 : (Int8.ofInt (31)).toInt32 = nI 31 := by decide +kernel
theorem bp_32 : (Int8.ofInt (32)).toInt32 = nI 32 := by decide +kernel
theorem bp_33 : (Int8.ofInt (33)).toInt32 = nI 33 := by decide +kernel
theorem bp_45 : (Int8.ofInt (45)).toInt32 = nI 45 := by decide +kernel
theorem bp_48 : (Int8.ofInt (48)).toInt32 = nI 48 := by decide +kernel
theorem bp_50 : (Int8.ofInt (50)).toInt32 = nI 50 := by decide +kernel
theorem bp_57 : (Int8.ofInt (57)).toInt32 = nI 57 := by decide +kernel
theorem bp_60 : (Int8.ofInt (60)).toInt32 = nI 60 := by decide +kernel
theorem bp_63 : (Int8.ofInt (63)).toInt32 = nI 63 := by decide +kernel
theorem bp_68 : (Int8.ofInt (68)).toInt32 = nI 68 := by decide +kernel
theorem bp_76 : (Int8.ofInt (76)).toInt32 = nI 76 := by decide +kernel
theorem bp_77 : (Int8.ofInt (77)).toInt32 = nI 77 := by decide +kernel
theorem bp_80 : (Int8.ofInt (80)).toInt32 = nI 80 := by decide +kernel
theorem bp_99 : (Int8.ofInt (99)).toInt32 = nI 99 := by decide +kernel
theorem ic_m1 : Int32.ofInt (-1) = (-1 : Int32) := by decide +kernel
theorem ic_0 : Int32.ofInt (0) = nI 0 := by decide +kernel
theorem ic_1 : Int32.ofInt (1) = nI 1 := by decide +kernel
theorem ic_2 : Int32.ofInt (2) = nI 2 := by decide +kernel
theorem ic_3 : Int32.ofInt (3) = nI 3 := by decide +kernel
theorem ic_4 : Int32.ofInt (4) = nI 4 := by decide +kernel
theorem ic_5 : Int32.ofInt (5) = nI 5 := by decide +kernel
theorem sp_255 : (Int16.ofInt (255)).toInt32 = nI 255 := by decide +kernel
theorem sp_325 : (Int16.ofInt (325)).toInt32 = nI 325 := by decide +kernel
theorem sp_350 : (Int16.ofInt (350)).toInt32 = nI 350 := by decide +kernel
theorem sp_9999 : (Int16.ofInt (9999)).toInt32 = nI 9999 := by decide +kernel
section WF2
variable {E : EnvT} {K : CtxT} {μ : MI} {d : Nat} {f : Nat × Nat} {pc : Nat} {L : List (Option Value)} {st : List Value} {nx : Nat} {M : Mm} {k n : Nat} {Z : State → Prop}
theorem wp_iinc1 {i j : Nat} {L' : List (Option Value)} (hd : decode μ.2.1 pc = .ok (.iinc i 1, 3)) (hx : L[i]? = some (some (.int (nI j)))) (hk : nolong L i = true) (hL : L.set i (some (.int (nI (j + 1)))) = L') (kk : Wp E K μ d f (pc + 3) L' st nx M k n Z) : Wp E K μ d f pc L st nx M k n Z :=
  wp_iinc (L' := L') hd hx hk (by rw [show nI j + Int32.ofInt 1 = nI (j + 1) from nI_1 j]; exact hL) kk
theorem wp_iremN {a b : Nat} {x y : Int32} (hd : decode μ.2.1 pc = .ok (.irem, 1)) (hx : x = nI a) (hy : y = nI b) (ha : a < 2 ^ 31) (hb : 0 < b) (hb2 : b < 2 ^ 31) (kk : Wp E K μ d f (pc + 1) L (.int (nI (a % b)) :: st) nx M k n Z) : Wp E K μ d f pc L (.int y :: .int x :: st) nx M k n Z := by
  subst hx hy
  exact wp_irem hd (nI_ne0 hb hb2) (by rw [pk_rem ha hb hb2]; exact kk)
theorem wp_idivN {a b : Nat} {x y : Int32} (hd : decode μ.2.1 pc = .ok (.idiv, 1)) (hx : x = nI a) (hy : y = nI b) (ha : a < 2 ^ 31) (hb : 0 < b) (hb2 : b < 2 ^ 31) (kk : Wp E K μ d f (pc + 1) L (.int (nI (a / b)) :: st) nx M k n Z) : Wp E K μ d f pc L (.int y :: .int x :: st) nx M k n Z := by
  subst hx hy
  exact wp_idiv hd (nI_ne0 hb hb2) (by rw [pk_div ha hb hb2]; exact kk)
/-- a name for the number on top -/
theorem wp_top {x : Int32} (y : Int32) (h : x = y) (kk : Wp E K μ d f pc L (.int y :: st) nx M k n Z) : Wp E K μ d f pc L (.int x :: st) nx M k n Z := by
  subst h
  exact kk
theorem wp_mem {M' : Mm} (h : M = M') (kk : Wp E K μ d f pc L st nx M' k n Z) : Wp E K μ d f pc L st nx M k n Z := by
  subst h
  exact kk
end WF2
