/-! All tables are right. -/
theorem mOkI {c : Bool} {x y : mMt} (hx : mOkM x = true) (hy : mOkM y = true) : mOkM (bif c then x else y) = true := by
  cases c
  · exact hy
  · exact hx
theorem mOkEx {l : List mMt} (h : l.all mOkM = true) (k : Nat) {x : mMt} (hx : l[k]? = some x) : mOkM x = true := List.all_eq_true.mp h x (List.mem_of_getElem? hx)
theorem o_mmX : mOkM mmX = true := by decide +kernel
theorem o_mm0 : mOkM mm0 = true := mOkEx mOk_g0 0 rfl
theorem o_mm1 : mOkM mm1 = true := mOkEx mOk_g0 1 rfl
theorem o_mm2 : mOkM mm2 = true := mOkEx mOk_g0 2 rfl
theorem o_mm3 : mOkM mm3 = true := mOkEx mOk_g0 3 rfl
theorem o_mm4 : mOkM mm4 = true := mOkEx mOk_g0 4 rfl
theorem o_mm5 : mOkM mm5 = true := mOkEx mOk_g0 5 rfl
theorem o_mm6 : mOkM mm6 = true := mOkEx mOk_g1 0 rfl
theorem o_mm7 : mOkM mm7 = true := mOkEx mOk_g1 1 rfl
theorem o_mm8 : mOkM mm8 = true := mOkEx mOk_g1 2 rfl
theorem o_mm9 : mOkM mm9 = true := mOkEx mOk_g1 3 rfl
theorem o_mm10 : mOkM mm10 = true := mOkEx mOk_g1 4 rfl
theorem o_mm11 : mOkM mm11 = true := mOkEx mOk_g1 5 rfl
theorem o_mm12 : mOkM mm12 = true := mOkEx mOk_g2 0 rfl
theorem o_mm13 : mOkM mm13 = true := mOkEx mOk_g2 1 rfl
theorem o_mm14 : mOkM mm14 = true := mOkEx mOk_g2 2 rfl
theorem o_mm15 : mOkM mm15 = true := mOkEx mOk_g2 3 rfl
theorem o_mm16 : mOkM mm16 = true := mOkEx mOk_g2 4 rfl
theorem o_mm17 : mOkM mm17 = true := mOkEx mOk_g2 5 rfl
theorem o_mm18 : mOkM mm18 = true := mOkEx mOk_g3 0 rfl
theorem o_mm19 : mOkM mm19 = true := mOkEx mOk_g3 1 rfl
theorem o_mm20 : mOkM mm20 = true := mOkEx mOk_g3 2 rfl
theorem o_mm21 : mOkM mm21 = true := mOkEx mOk_g3 3 rfl
theorem o_mm22 : mOkM mm22 = true := mOkEx mOk_g3 4 rfl
theorem o_mm23 : mOkM mm23 = true := mOkEx mOk_g3 5 rfl
theorem o_mm24 : mOkM mm24 = true := mOkEx mOk_g4 0 rfl
theorem o_mm25 : mOkM mm25 = true := mOkEx mOk_g4 1 rfl
theorem o_mm26 : mOkM mm26 = true := mOkEx mOk_g4 2 rfl
theorem o_mm27 : mOkM mm27 = true := mOkEx mOk_g4 3 rfl
theorem o_mm28 : mOkM mm28 = true := mOkEx mOk_g4 4 rfl
theorem o_mm29 : mOkM mm29 = true := mOkEx mOk_g4 5 rfl
theorem o_mm30 : mOkM mm30 = true := mOkEx mOk_g5 0 rfl
theorem o_mm31 : mOkM mm31 = true := mOkEx mOk_g5 1 rfl
theorem o_mm32 : mOkM mm32 = true := mOkEx mOk_g5 2 rfl
theorem o_mm33 : mOkM mm33 = true := mOkEx mOk_g5 3 rfl
theorem o_mm34 : mOkM mm34 = true := mOkEx mOk_g5 4 rfl
theorem o_mm35 : mOkM mm35 = true := mOkEx mOk_g5 5 rfl
theorem o_mm36 : mOkM mm36 = true := mOkEx mOk_g6 0 rfl
theorem o_mm37 : mOkM mm37 = true := mOkEx mOk_g6 1 rfl
theorem o_mm38 : mOkM mm38 = true := mOkEx mOk_g6 2 rfl
theorem o_mm39 : mOkM mm39 = true := mOkEx mOk_g6 3 rfl
theorem o_mm40 : mOkM mm40 = true := mOkEx mOk_g6 4 rfl
theorem o_mm41 : mOkM mm41 = true := mOkEx mOk_g6 5 rfl
theorem o_mm42 : mOkM mm42 = true := mOkEx mOk_g7 0 rfl
theorem o_mm43 : mOkM mm43 = true := mOkEx mOk_g7 1 rfl
theorem o_mm44 : mOkM mm44 = true := mOkEx mOk_g7 2 rfl
theorem o_mm45 : mOkM mm45 = true := mOkEx mOk_g7 3 rfl
theorem o_mm46 : mOkM mm46 = true := mOkEx mOk_g7 4 rfl
theorem o_mm47 : mOkM mm47 = true := mOkEx mOk_g7 5 rfl
theorem o_mm48 : mOkM mm48 = true := mOkEx mOk_g8 0 rfl
theorem o_mm49 : mOkM mm49 = true := mOkEx mOk_g8 1 rfl
theorem o_mm50 : mOkM mm50 = true := mOkEx mOk_g8 2 rfl
theorem o_mm51 : mOkM mm51 = true := mOkEx mOk_g8 3 rfl
theorem o_mm52 : mOkM mm52 = true := mOkEx mOk_g8 4 rfl
theorem o_mm53 : mOkM mm53 = true := mOkEx mOk_g8 5 rfl
theorem o_mm54 : mOkM mm54 = true := mOkEx mOk_g9 0 rfl
theorem o_mm55 : mOkM mm55 = true := mOkEx mOk_g9 1 rfl
theorem o_mm56 : mOkM mm56 = true := mOkEx mOk_g9 2 rfl
theorem o_mm57 : mOkM mm57 = true := mOkEx mOk_g9 3 rfl
theorem o_mm58 : mOkM mm58 = true := mOkEx mOk_g9 4 rfl
theorem o_mm59 : mOkM mm59 = true := mOkEx mOk_g9 5 rfl
theorem o_mm60 : mOkM mm60 = true := mOkEx mOk_g10 0 rfl
theorem o_mm61 : mOkM mm61 = true := mOkEx mOk_g10 1 rfl
theorem o_mm62 : mOkM mm62 = true := mOkEx mOk_g10 2 rfl
theorem o_mm63 : mOkM mm63 = true := mOkEx mOk_g10 3 rfl
theorem o_mm64 : mOkM mm64 = true := mOkEx mOk_g10 4 rfl
theorem o_mm65 : mOkM mm65 = true := mOkEx mOk_g10 5 rfl
theorem o_mm66 : mOkM mm66 = true := mOkEx mOk_g11 0 rfl
theorem o_mm67 : mOkM mm67 = true := mOkEx mOk_g11 1 rfl
theorem o_mm68 : mOkM mm68 = true := mOkEx mOk_g11 2 rfl
theorem o_mm69 : mOkM mm69 = true := mOkEx mOk_g11 3 rfl
theorem o_mm70 : mOkM mm70 = true := mOkEx mOk_g11 4 rfl
theorem o_mm71 : mOkM mm71 = true := mOkEx mOk_g11 5 rfl
theorem o_mm72 : mOkM mm72 = true := mOkEx mOk_g12 0 rfl
theorem o_mm73 : mOkM mm73 = true := mOkEx mOk_g12 1 rfl
theorem o_mm74 : mOkM mm74 = true := mOkEx mOk_g12 2 rfl
theorem o_mm75 : mOkM mm75 = true := mOkEx mOk_g12 3 rfl
theorem o_mm76 : mOkM mm76 = true := mOkEx mOk_g12 4 rfl
theorem o_mm77 : mOkM mm77 = true := mOkEx mOk_g12 5 rfl
theorem o_mm78 : mOkM mm78 = true := mOkEx mOk_g13 0 rfl
theorem o_mm79 : mOkM mm79 = true := mOkEx mOk_g13 1 rfl
theorem o_mm80 : mOkM mm80 = true := mOkEx mOk_g13 2 rfl
theorem o_mm81 : mOkM mm81 = true := mOkEx mOk_g13 3 rfl
theorem o_mm82 : mOkM mm82 = true := mOkEx mOk_g13 4 rfl
theorem o_mm83 : mOkM mm83 = true := mOkEx mOk_g13 5 rfl
theorem o_mm84 : mOkM mm84 = true := mOkEx mOk_g14 0 rfl
theorem o_mm85 : mOkM mm85 = true := mOkEx mOk_g14 1 rfl
theorem o_mm86 : mOkM mm86 = true := mOkEx mOk_g14 2 rfl
theorem o_mm87 : mOkM mm87 = true := mOkEx mOk_g14 3 rfl
theorem o_mm88 : mOkM mm88 = true := mOkEx mOk_g14 4 rfl
theorem o_mm89 : mOkM mm89 = true := mOkEx mOk_g14 5 rfl
theorem o_mm90 : mOkM mm90 = true := mOkEx mOk_g15 0 rfl
theorem o_mm91 : mOkM mm91 = true := mOkEx mOk_g15 1 rfl
theorem o_mm92 : mOkM mm92 = true := mOkEx mOk_g15 2 rfl
theorem o_mm93 : mOkM mm93 = true := mOkEx mOk_g15 3 rfl
theorem o_mm94 : mOkM mm94 = true := mOkEx mOk_g15 4 rfl
theorem o_mm95 : mOkM mm95 = true := mOkEx mOk_g15 5 rfl
theorem o_mm96 : mOkM mm96 = true := mOkEx mOk_g16 0 rfl
theorem o_mm97 : mOkM mm97 = true := mOkEx mOk_g16 1 rfl
theorem o_mm98 : mOkM mm98 = true := mOkEx mOk_g16 2 rfl
theorem o_mm99 : mOkM mm99 = true := mOkEx mOk_g16 3 rfl
theorem o_mm100 : mOkM mm100 = true := mOkEx mOk_g16 4 rfl
theorem o_mm101 : mOkM mm101 = true := mOkEx mOk_g16 5 rfl
theorem o_mm102 : mOkM mm102 = true := mOkEx mOk_g17 0 rfl
theorem o_mm103 : mOkM mm103 = true := mOkEx mOk_g17 1 rfl
theorem o_mm104 : mOkM mm104 = true := mOkEx mOk_g17 2 rfl
theorem o_mm105 : mOkM mm105 = true := mOkEx mOk_g17 3 rfl
theorem o_mm106 : mOkM mm106 = true := mOkEx mOk_g17 4 rfl
theorem o_mm107 : mOkM mm107 = true := mOkEx mOk_g17 5 rfl
theorem o_mm108 : mOkM mm108 = true := mOkEx mOk_g18 0 rfl
theorem o_mm109 : mOkM mm109 = true := mOkEx mOk_g18 1 rfl
theorem o_mm110 : mOkM mm110 = true := mOkEx mOk_g18 2 rfl
theorem o_mm111 : mOkM mm111 = true := mOkEx mOk_g18 3 rfl
theorem o_mm112 : mOkM mm112 = true := mOkEx mOk_g18 4 rfl
theorem o_mm113 : mOkM mm113 = true := mOkEx mOk_g18 5 rfl
theorem o_mm114 : mOkM mm114 = true := mOkEx mOk_g19 0 rfl
theorem o_mm115 : mOkM mm115 = true := mOkEx mOk_g19 1 rfl
theorem o_mm116 : mOkM mm116 = true := mOkEx mOk_g19 2 rfl
theorem o_mm117 : mOkM mm117 = true := mOkEx mOk_g19 3 rfl
theorem o_mm118 : mOkM mm118 = true := mOkEx mOk_g19 4 rfl
theorem o_mm119 : mOkM mm119 = true := mOkEx mOk_g19 5 rfl
theorem o_mm120 : mOkM mm120 = true := mOkEx mOk_g20 0 rfl
theorem o_mm121 : mOkM mm121 = true := mOkEx mOk_g20 1 rfl
theorem o_mm122 : mOkM mm122 = true := mOkEx mOk_g20 2 rfl
theorem o_mm123 : mOkM mm123 = true := mOkEx mOk_g20 3 rfl
theorem o_mm124 : mOkM mm124 = true := mOkEx mOk_g20 4 rfl
theorem o_mm125 : mOkM mm125 = true := mOkEx mOk_g20 5 rfl
theorem o_mm126 : mOkM mm126 = true := mOkEx mOk_g21 0 rfl
theorem o_mm127 : mOkM mm127 = true := mOkEx mOk_g21 1 rfl
theorem o_mm128 : mOkM mm128 = true := mOkEx mOk_g21 2 rfl
theorem o_mm129 : mOkM mm129 = true := mOkEx mOk_g21 3 rfl
theorem o_mm130 : mOkM mm130 = true := mOkEx mOk_g21 4 rfl
theorem o_mm131 : mOkM mm131 = true := mOkEx mOk_g21 5 rfl
theorem o_mm132 : mOkM mm132 = true := mOkEx mOk_g22 0 rfl
theorem o_mm133 : mOkM mm133 = true := mOkEx mOk_g22 1 rfl
theorem o_mm134 : mOkM mm134 = true := mOkEx mOk_g22 2 rfl
theorem o_mm135 : mOkM mm135 = true := mOkEx mOk_g22 3 rfl
theorem o_mm136 : mOkM mm136 = true := mOkEx mOk_g22 4 rfl
theorem o_mm137 : mOkM mm137 = true := mOkEx mOk_g22 5 rfl
theorem o_mm138 : mOkM mm138 = true := mOkEx mOk_g23 0 rfl
theorem o_mm139 : mOkM mm139 = true := mOkEx mOk_g23 1 rfl
theorem o_mm140 : mOkM mm140 = true := mOkEx mOk_g23 2 rfl
theorem o_mm141 : mOkM mm141 = true := mOkEx mOk_g23 3 rfl
theorem o_mm142 : mOkM mm142 = true := mOkEx mOk_g23 4 rfl
theorem o_mm143 : mOkM mm143 = true := mOkEx mOk_g23 5 rfl
theorem o_mm144 : mOkM mm144 = true := mOkEx mOk_g24 0 rfl
theorem o_mm145 : mOkM mm145 = true := mOkEx mOk_g24 1 rfl
theorem o_mm146 : mOkM mm146 = true := mOkEx mOk_g24 2 rfl
theorem o_mm147 : mOkM mm147 = true := mOkEx mOk_g24 3 rfl
theorem o_mm148 : mOkM mm148 = true := mOkEx mOk_g24 4 rfl
theorem o_mm149 : mOkM mm149 = true := mOkEx mOk_g24 5 rfl
theorem o_mm150 : mOkM mm150 = true := mOkEx mOk_g25 0 rfl
theorem o_mm151 : mOkM mm151 = true := mOkEx mOk_g25 1 rfl
theorem o_mm152 : mOkM mm152 = true := mOkEx mOk_g25 2 rfl
theorem o_mm153 : mOkM mm153 = true := mOkEx mOk_g25 3 rfl
theorem o_mm154 : mOkM mm154 = true := mOkEx mOk_g25 4 rfl
theorem o_mm155 : mOkM mm155 = true := mOkEx mOk_g25 5 rfl
theorem o_mm156 : mOkM mm156 = true := mOkEx mOk_g26 0 rfl
theorem o_mm157 : mOkM mm157 = true := mOkEx mOk_g26 1 rfl
theorem o_mm158 : mOkM mm158 = true := mOkEx mOk_g26 2 rfl
theorem o_mm159 : mOkM mm159 = true := mOkEx mOk_g26 3 rfl
theorem o_mm160 : mOkM mm160 = true := mOkEx mOk_g26 4 rfl
theorem o_mm161 : mOkM mm161 = true := mOkEx mOk_g26 5 rfl
theorem o_mm162 : mOkM mm162 = true := mOkEx mOk_g27 0 rfl
theorem o_mm163 : mOkM mm163 = true := mOkEx mOk_g27 1 rfl
theorem o_mm164 : mOkM mm164 = true := mOkEx mOk_g27 2 rfl
theorem o_mm165 : mOkM mm165 = true := mOkEx mOk_g27 3 rfl
theorem o_mm166 : mOkM mm166 = true := mOkEx mOk_g27 4 rfl
theorem o_mm167 : mOkM mm167 = true := mOkEx mOk_g27 5 rfl
theorem mOkL_cons {m : mMt} {u : Nat} {c : List (Nat × mE)} {r : List (Nat × List (Nat × mE))} (h : c.all (fun q => mOkE m q.1 q.2) = true) (hr : mOkL m r = true) : mOkL m ((u, c) :: r) = true := by
  unfold mOkL
  rw [h, hr]
  rfl
theorem mOkM_of {m : mMt} (h1 : mOkW m = true) (h2 : Nat.ble (mtMax m) 15 = true) (h3 : Jvm.plainName (mtName m).cls = true) (h4 : decide ((mtName m).cls ≠ "java/lang/invoke/MethodHandle") = true) (h5 : decide ((mtName m).cls ≠ "java/lang/invoke/VarHandle") = true) (h6 : mOkL m (mtCode m) = true) : mOkM m = true := by
  unfold mOkM
  rw [h1, h2, h3, h4, h5, h6]
  rfl
theorem mOkD {m : mMt} : ∀ (l : List (Nat × List (Nat × mE))), (∀ k, ((l.getD k (0, [])).2).all (fun q => mOkE m q.1 q.2) = true) → mOkL m l = true
  | [], _ => rfl
  | (_, _) :: r, h => mOkL_cons (h 0) (mOkD r (fun k => h (k + 1)))
theorem mOkPz (k : Nat) (h : 33 ≤ k) : (((mtCode mm168).getD k (0, [])).2).all (fun q => mOkE mm168 q.1 q.2) = true := by
  have hl : (mtCode mm168).length = 33 := by decide +kernel
  rw [List.getD_eq_getElem?_getD, List.getElem?_eq_none (by omega)]
  rfl
theorem mOkPa (k : Nat) : (((mtCode mm168).getD k (0, [])).2).all (fun q => mOkE mm168 q.1 q.2) = true := by
  match k with
  | 0 => exact mOkP0
  | 1 => exact mOkP1
  | 2 => exact mOkP2
  | 3 => exact mOkP3
  | 4 => exact mOkP4
  | 5 => exact mOkP5
  | 6 => exact mOkP6
  | 7 => exact mOkP7
  | 8 => exact mOkP8
  | 9 => exact mOkP9
  | 10 => exact mOkP10
  | 11 => exact mOkP11
  | 12 => exact mOkP12
  | 13 => exact mOkP13
  | 14 => exact mOkP14
  | 15 => exact mOkP15
  | 16 => exact mOkP16
  | 17 => exact mOkP17
  | 18 => exact mOkP18
  | 19 => exact mOkP19
  | 20 => exact mOkP20
  | 21 => exact mOkP21
  | 22 => exact mOkP22
  | 23 => exact mOkP23
  | 24 => exact mOkP24
  | 25 => exact mOkP25
  | 26 => exact mOkP26
  | 27 => exact mOkP27
  | 28 => exact mOkP28
  | 29 => exact mOkP29
  | 30 => exact mOkP30
  | 31 => exact mOkP31
  | 32 => exact mOkP32
  | k + 33 => exact mOkPz (k + 33) (by omega)
theorem mOk_law : mOkM mm168 = true := mOkM_of mOkPW (by decide +kernel) (by decide +kernel) (by decide +kernel) (by decide +kernel) (mOkD _ mOkPa)
theorem o_mm168 : mOkM mm168 = true := mOk_law
theorem mOk_all (M : Nat) : mOkM (mTb_ M) = true := by
  unfold mTb_
  exact mOkI (mOkI (mOkI (mOkI (mOkI (mOkI (mOkI (mOkI o_mm0 o_mm1) (mOkI o_mm2 (mOkI o_mm3 o_mm4))) (mOkI (mOkI o_mm5 o_mm6) (mOkI o_mm7 (mOkI o_mm8 o_mm9)))) (mOkI (mOkI (mOkI o_mm10 o_mm11) (mOkI o_mm12 (mOkI o_mm13 o_mm14))) (mOkI (mOkI o_mm15 (mOkI o_mm16 o_mm17)) (mOkI o_mm18 (mOkI o_mm19 o_mm20))))) (mOkI (mOkI (mOkI (mOkI o_mm21 o_mm22) (mOkI o_mm23 (mOkI o_mm24 o_mm25))) (mOkI (mOkI o_mm26 o_mm27) (mOkI o_mm28 (mOkI o_mm29 o_mm30)))) (mOkI (mOkI (mOkI o_mm31 o_mm32) (mOkI o_mm33 (mOkI o_mm34 o_mm35))) (mOkI (mOkI o_mm36 (mOkI o_mm37 o_mm38)) (mOkI o_mm39 (mOkI o_mm40 o_mm41)))))) (mOkI (mOkI (mOkI (mOkI (mOkI o_mm42 o_mm43) (mOkI o_mm44 (mOkI o_mm45 o_mm46))) (mOkI (mOkI o_mm47 o_mm48) (mOkI o_mm49 (mOkI o_mm50 o_mm51)))) (mOkI (mOkI (mOkI o_mm52 o_mm53) (mOkI o_mm54 (mOkI o_mm55 o_mm56))) (mOkI (mOkI o_mm57 (mOkI o_mm58 o_mm59)) (mOkI o_mm60 (mOkI o_mm61 o_mm62))))) (mOkI (mOkI (mOkI (mOkI o_mm63 o_mm64) (mOkI o_mm65 (mOkI o_mm66 o_mm67))) (mOkI (mOkI o_mm68 o_mm69) (mOkI o_mm70 (mOkI o_mm71 o_mm72)))) (mOkI (mOkI (mOkI o_mm73 o_mm74) (mOkI o_mm75 (mOkI o_mm76 o_mm77))) (mOkI (mOkI o_mm78 (mOkI o_mm79 o_mm80)) (mOkI o_mm81 (mOkI o_mm82 o_mm83))))))) (mOkI (mOkI (mOkI (mOkI (mOkI (mOkI o_mm84 o_mm85) (mOkI o_mm86 (mOkI o_mm87 o_mm88))) (mOkI (mOkI o_mm89 o_mm90) (mOkI o_mm91 (mOkI o_mm92 o_mm93)))) (mOkI (mOkI (mOkI o_mm94 o_mm95) (mOkI o_mm96 (mOkI o_mm97 o_mm98))) (mOkI (mOkI o_mm99 (mOkI o_mm100 o_mm101)) (mOkI o_mm102 (mOkI o_mm103 o_mm104))))) (mOkI (mOkI (mOkI (mOkI o_mm105 o_mm106) (mOkI o_mm107 (mOkI o_mm108 o_mm109))) (mOkI (mOkI o_mm110 o_mm111) (mOkI o_mm112 (mOkI o_mm113 o_mm114)))) (mOkI (mOkI (mOkI o_mm115 o_mm116) (mOkI o_mm117 (mOkI o_mm118 o_mm119))) (mOkI (mOkI o_mm120 (mOkI o_mm121 o_mm122)) (mOkI o_mm123 (mOkI o_mm124 o_mm125)))))) (mOkI (mOkI (mOkI (mOkI (mOkI o_mm126 o_mm127) (mOkI o_mm128 (mOkI o_mm129 o_mm130))) (mOkI (mOkI o_mm131 o_mm132) (mOkI o_mm133 (mOkI o_mm134 o_mm135)))) (mOkI (mOkI (mOkI o_mm136 o_mm137) (mOkI o_mm138 (mOkI o_mm139 o_mm140))) (mOkI (mOkI o_mm141 (mOkI o_mm142 o_mm143)) (mOkI o_mm144 (mOkI o_mm145 o_mm146))))) (mOkI (mOkI (mOkI (mOkI o_mm147 o_mm148) (mOkI o_mm149 (mOkI o_mm150 o_mm151))) (mOkI (mOkI o_mm152 (mOkI o_mm153 o_mm154)) (mOkI o_mm155 (mOkI o_mm156 o_mm157)))) (mOkI (mOkI (mOkI o_mm158 o_mm159) (mOkI o_mm160 (mOkI o_mm161 o_mm162))) (mOkI (mOkI o_mm163 (mOkI o_mm164 o_mm165)) (mOkI o_mm166 (mOkI o_mm167 o_mm168)))))))) o_mmX
