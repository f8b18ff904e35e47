set_option maxHeartbeats 4000000 in
set_option maxRecDepth 100000 in
theorem lc_enter {p : Program} {l : Launch} {e : Env} {s : State} {m : MethodId} {below : List Frame} {meth : Method} {c : Code} {dC : Nat → ClassId} {dI : Nat → Nat → Nat} {b L : Nat} {xs : Nat → Int32} {x0 x1 x2 x3 x4 x5 y0 y1 y2 y3 y4 y5 : Nat} {c0 c1 : ClassId} {ft : Nat → Int32} {i : Nat} (hL : L ≤ 3072) (C0 : lw_At p s m meth c b L xs) (hK : va_K (dC, dI) vwCl [(c0, .int), (c1, .int)] s) (hi : i + 6 ≤ L) (K : LK p l e s m below meth c dC dI b x0 x1 x2 x3 x4 x5 y0 y1 y2 y3 y4 y5 c0 c1 ft i 794) : LK p l e s m below meth c dC dI b x0 x1 x2 x3 x4 x5 y0 y1 y2 y3 y4 y5 c0 c1 ft i 120 := by
  intro n J rec lim fb fj fm fw fr gb gj gm gw H locs ls R hP hD hS hl
  obtain ⟨hx, hb, hr, hml, hown, hts, hX, hbl, hlocks, hgv⟩ := C0
  have hown : s.vm.findClass RL = some m.cls := hown
  have hts := fun w h => hts w (wsL_law_in w h)
  have hA : ∀ q : Nat, s.heap.size ≤ q → (fun q : Nat => s.heap.size ≤ q) q := fun _ h => h
  have hbA : ¬ (fun q : Nat => s.heap.size ≤ q) b := Nat.not_le.mpr hbl
  obtain ⟨hn, hJ, hJ1, hJ0, hBb, hM, hV, hT, hB⟩ := id R
  have hKx := hK.sub (tys' := [(c0, .int)]) [0] rfl
  have hKy := hK.sub (tys' := [(c1, .int)]) [1] rfl
  have hPx := hP.sub (ws' := wX x0 x1 x2 x3 x4 x5 c0 (nI n) rec lim fb fj fm fw fr) [0, 1, 2, 3, 4, 5] rfl
  have hPy := hP.sub (ws' := wY y0 y1 y2 y3 y4 y5 c1 (nI n) rec lim gb gj gm gw ft) [6, 7, 8, 9, 10, 11] rfl
  refine lv_aload_n hx hb dL_law_120 rfl (lv_at hl 1 rfl) ?_
  refine lv_aload_n hx hb dL_law_121 rfl (lv_at hl 0 rfl) ?_
  refine lv_iload_n hx hb dL_law_122 rfl (lv_at hl 3 rfl) ?_
  refine lv_iconst (v := 1) hx hb dL_law_123 (by decide) ?_
  refine lv_iadd hx hb dL_law_124 ?_
  refine q_top (y := nI (i + 1)) (by exact nI_add i 1) ?_
  refine va_sld hx hb hX hbl hbA hS (vp_in_nI (show i + 1 < L by omega) (by omega)) dL_law_125 ?_
  refine q_top (y := xs (i + 1)) (by rw [nI_clamp (by omega)]) ?_
  have hDx := hD.sub (ws' := wX x0 x1 x2 x3 x4 x5 c0 (nI n) rec lim fb fj fm fw fr) [0, 1, 2, 3, 4, 5] (by decide) rfl
  refine q_cwj (wY y0 y1 y2 y3 y4 y5 c1 (nI n) rec lim gb gj gm gw ft) [.int (xs (i + 1))] (rest := []) ⟨hx, hb, hml, hown, hts⟩ (mX0_enter l dC dI x0 x1 x2 x3 x4 x5 c0 n rec lim fb fj fm fw fr _ (xs (i + 1)) hn) gL_law_X0_enter rfl rfl rfl hdX0_enter ⟨Nat.le_of_ble_eq_true rfl, Nat.le_of_ble_eq_true rfl⟩ rfl hKx hP hD hS hA [0, 1, 2, 3, 4, 5] [6, 7, 8, 9, 10, 11] hPx hDx rfl rfl (by decide) (by decide) rfl rfl hl.1 rfl (Nat.le_of_ble_eq_true rfl) dL_law_126 ⟨Nat.le_of_ble_eq_true rfl, Nat.le_of_ble_eq_true rfl⟩ (fun r u H locs hu hP hD hS => ?_)
  have hP := hP.sub (ws' := wX x0 x1 x2 x3 x4 x5 c0 (nI u.1) rec lim u.2 fj fm fw fr ++ wY y0 y1 y2 y3 y4 y5 c1 (nI n) rec lim gb gj gm gw ft) [6, 7, 8, 9, 10, 11, 0, 1, 2, 3, 4, 5] rfl
  have hD := hD.sub (ws' := wX x0 x1 x2 x3 x4 x5 c0 (nI u.1) rec lim u.2 fj fm fw fr ++ wY y0 y1 y2 y3 y4 y5 c1 (nI n) rec lim gb gj gm gw ft) [6, 7, 8, 9, 10, 11, 0, 1, 2, 3, 4, 5] (by decide) rfl
  have hPy := hP.sub (ws' := wY y0 y1 y2 y3 y4 y5 c1 (nI n) rec lim gb gj gm gw ft) [6, 7, 8, 9, 10, 11] rfl
  refine lv_aload_n hx hb dL_law_129 rfl (lv_at hl 2 rfl) ?_
  refine lv_aload_n hx hb dL_law_130 rfl (lv_at hl 0 rfl) ?_
  refine lv_iload_n hx hb dL_law_131 rfl (lv_at hl 3 rfl) ?_
  refine lv_iconst (v := 1) hx hb dL_law_132 (by decide) ?_
  refine lv_iadd hx hb dL_law_133 ?_
  refine q_top (y := nI (i + 1)) (by exact nI_add i 1) ?_
  refine va_sld hx hb hX hbl hbA hS (vp_in_nI (show i + 1 < L by omega) (by omega)) dL_law_134 ?_
  refine q_top (y := xs (i + 1)) (by rw [nI_clamp (by omega)]) ?_
  have hDy := hD.sub (ws' := wY y0 y1 y2 y3 y4 y5 c1 (nI n) rec lim gb gj gm gw ft) [6, 7, 8, 9, 10, 11] (by decide) rfl
  refine q_cwj (wX x0 x1 x2 x3 x4 x5 c0 (nI u.1) rec lim u.2 fj fm fw fr) [.int (xs (i + 1))] (rest := [.int r]) ⟨hx, hb, hml, hown, hts⟩ (mX1_enter l dC dI y0 y1 y2 y3 y4 y5 c1 n rec lim gb gj gm gw ft _ (xs (i + 1)) hn) gL_law_X1_enter rfl rfl rfl hdX1_enter ⟨Nat.le_of_ble_eq_true rfl, Nat.le_of_ble_eq_true rfl⟩ rfl hKy hP hD hS hA [6, 7, 8, 9, 10, 11] [0, 1, 2, 3, 4, 5] hPy hDy rfl rfl (by decide) (by decide) rfl rfl hl.1 rfl (Nat.le_of_ble_eq_true rfl) dL_law_135 ⟨Nat.le_of_ble_eq_true rfl, Nat.le_of_ble_eq_true rfl⟩ (fun r2 v H locs hv hP hD hS => ?_)
  rw [rel_eB R] at hv
  by_cases q : eB fb n (xs (i + 1)) = true
  · rw [if_pos q] at hu hv
    obtain ⟨er, eu⟩ := hu
    obtain ⟨er2, ev⟩ := hv
    rw [eu, ev] at hP hD
    refine lv_icmp_eq (tgt := 794) hx hb dL_law_138 (by decide) (fun _ => ?_) (fun c_ => absurd (er.trans er2.symm) c_)
    exact K (n + 1) J rec lim (upd fb n (xs (i + 1))) fj fm fw fr (upd gb n (xs (i + 1))) (upd gj n 0) gm gw H locs ls (rel_enter R q) hP hD hS hl
  · rw [if_neg q] at hu hv
    obtain ⟨er, eu⟩ := hu
    obtain ⟨er2, ev⟩ := hv
    rw [eu, ev] at hP hD
    refine lv_icmp_eq (tgt := 794) hx hb dL_law_138 (by decide) (fun _ => ?_) (fun c_ => absurd (er.trans er2.symm) c_)
    exact K n J _ _ _ _ _ _ _ _ _ _ _ _ _ ls R hP hD hS hl

set_option maxHeartbeats 4000000 in
set_option maxRecDepth 100000 in
theorem lc_jump {p : Program} {l : Launch} {e : Env} {s : State} {m : MethodId} {below : List Frame} {meth : Method} {c : Code} {dC : Nat → ClassId} {dI : Nat → Nat → Nat} {b L : Nat} {xs : Nat → Int32} {x0 x1 x2 x3 x4 x5 y0 y1 y2 y3 y4 y5 : Nat} {c0 c1 : ClassId} {ft : Nat → Int32} {i : Nat} (hL : L ≤ 3072) (C0 : lw_At p s m meth c b L xs) (hK : va_K (dC, dI) vwCl [(c0, .int), (c1, .int)] s) (hi : i + 6 ≤ L) (K : LK p l e s m below meth c dC dI b x0 x1 x2 x3 x4 x5 y0 y1 y2 y3 y4 y5 c0 c1 ft i 794) : LK p l e s m below meth c dC dI b x0 x1 x2 x3 x4 x5 y0 y1 y2 y3 y4 y5 c0 c1 ft i 143 := by
  intro n J rec lim fb fj fm fw fr gb gj gm gw H locs ls R hP hD hS hl
  obtain ⟨hx, hb, hr, hml, hown, hts, hX, hbl, hlocks, hgv⟩ := C0
  have hown : s.vm.findClass RL = some m.cls := hown
  have hts := fun w h => hts w (wsL_law_in w h)
  have hA : ∀ q : Nat, s.heap.size ≤ q → (fun q : Nat => s.heap.size ≤ q) q := fun _ h => h
  have hbA : ¬ (fun q : Nat => s.heap.size ≤ q) b := Nat.not_le.mpr hbl
  obtain ⟨hn, hJ, hJ1, hJ0, hBb, hM, hV, hT, hB⟩ := id R
  have hKx := hK.sub (tys' := [(c0, .int)]) [0] rfl
  have hKy := hK.sub (tys' := [(c1, .int)]) [1] rfl
  have hPx := hP.sub (ws' := wX x0 x1 x2 x3 x4 x5 c0 (nI n) rec lim fb fj fm fw fr) [0, 1, 2, 3, 4, 5] rfl
  have hPy := hP.sub (ws' := wY y0 y1 y2 y3 y4 y5 c1 (nI n) rec lim gb gj gm gw ft) [6, 7, 8, 9, 10, 11] rfl
  refine lv_aload_n hx hb dL_law_143 rfl (lv_at hl 1 rfl) ?_
  refine lv_aload_n hx hb dL_law_144 rfl (lv_at hl 0 rfl) ?_
  refine lv_iload_n hx hb dL_law_145 rfl (lv_at hl 3 rfl) ?_
  refine lv_iconst (v := 1) hx hb dL_law_146 (by decide) ?_
  refine lv_iadd hx hb dL_law_147 ?_
  refine q_top (y := nI (i + 1)) (by exact nI_add i 1) ?_
  refine va_sld hx hb hX hbl hbA hS (vp_in_nI (show i + 1 < L by omega) (by omega)) dL_law_148 ?_
  refine q_top (y := xs (i + 1)) (by rw [nI_clamp (by omega)]) ?_
  refine lv_aload_n hx hb dL_law_149 rfl (lv_at hl 0 rfl) ?_
  refine lv_iload_n hx hb dL_law_150 rfl (lv_at hl 3 rfl) ?_
  refine lv_iconst (v := 2) hx hb dL_law_151 (by decide) ?_
  refine lv_iadd hx hb dL_law_152 ?_
  refine q_top (y := nI (i + 2)) (by exact nI_add i 2) ?_
  refine va_sld hx hb hX hbl hbA hS (vp_in_nI (show i + 2 < L by omega) (by omega)) dL_law_153 ?_
  refine q_top (y := xs (i + 2)) (by rw [nI_clamp (by omega)]) ?_
  refine lv_aload_n hx hb dL_law_154 rfl (lv_at hl 0 rfl) ?_
  refine lv_iload_n hx hb dL_law_155 rfl (lv_at hl 3 rfl) ?_
  refine lv_iconst (v := 3) hx hb dL_law_156 (by decide) ?_
  refine lv_iadd hx hb dL_law_157 ?_
  refine q_top (y := nI (i + 3)) (by exact nI_add i 3) ?_
  refine va_sld hx hb hX hbl hbA hS (vp_in_nI (show i + 3 < L by omega) (by omega)) dL_law_158 ?_
  refine q_top (y := xs (i + 3)) (by rw [nI_clamp (by omega)]) ?_
  have hDx := hD.sub (ws' := wX x0 x1 x2 x3 x4 x5 c0 (nI n) rec lim fb fj fm fw fr) [0, 1, 2, 3, 4, 5] (by decide) rfl
  refine q_cwj (wY y0 y1 y2 y3 y4 y5 c1 (nI n) rec lim gb gj gm gw ft) [.int (xs (i + 1)), .int (xs (i + 2)), .int (xs (i + 3))] (rest := []) ⟨hx, hb, hml, hown, hts⟩ (mX0_jump l dC dI x0 x1 x2 x3 x4 x5 c0 n rec lim fb fj fm fw fr _ J (xs (i + 1)) (xs (i + 2)) (xs (i + 3)) hn hJ) gL_law_X0_jump rfl rfl rfl hdX0_jump ⟨Nat.le_of_ble_eq_true rfl, Nat.le_of_ble_eq_true rfl⟩ rfl hKx hP hD hS hA [0, 1, 2, 3, 4, 5] [6, 7, 8, 9, 10, 11] hPx hDx rfl rfl (by decide) (by decide) rfl rfl hl.1 rfl (Nat.le_of_ble_eq_true rfl) dL_law_159 ⟨Nat.le_of_ble_eq_true rfl, Nat.le_of_ble_eq_true rfl⟩ (fun r u H locs hu hP hD hS => ?_)
  have hP := hP.sub (ws' := wX x0 x1 x2 x3 x4 x5 c0 (nI n) rec lim fb u.1 u.2.1 u.2.2 fr ++ wY y0 y1 y2 y3 y4 y5 c1 (nI n) rec lim gb gj gm gw ft) [6, 7, 8, 9, 10, 11, 0, 1, 2, 3, 4, 5] rfl
  have hD := hD.sub (ws' := wX x0 x1 x2 x3 x4 x5 c0 (nI n) rec lim fb u.1 u.2.1 u.2.2 fr ++ wY y0 y1 y2 y3 y4 y5 c1 (nI n) rec lim gb gj gm gw ft) [6, 7, 8, 9, 10, 11, 0, 1, 2, 3, 4, 5] (by decide) rfl
  have hPy := hP.sub (ws' := wY y0 y1 y2 y3 y4 y5 c1 (nI n) rec lim gb gj gm gw ft) [6, 7, 8, 9, 10, 11] rfl
  refine lv_aload_n hx hb dL_law_162 rfl (lv_at hl 2 rfl) ?_
  refine lv_aload_n hx hb dL_law_163 rfl (lv_at hl 0 rfl) ?_
  refine lv_iload_n hx hb dL_law_164 rfl (lv_at hl 3 rfl) ?_
  refine lv_iconst (v := 1) hx hb dL_law_165 (by decide) ?_
  refine lv_iadd hx hb dL_law_166 ?_
  refine q_top (y := nI (i + 1)) (by exact nI_add i 1) ?_
  refine va_sld hx hb hX hbl hbA hS (vp_in_nI (show i + 1 < L by omega) (by omega)) dL_law_167 ?_
  refine q_top (y := xs (i + 1)) (by rw [nI_clamp (by omega)]) ?_
  refine lv_aload_n hx hb dL_law_168 rfl (lv_at hl 0 rfl) ?_
  refine lv_iload_n hx hb dL_law_169 rfl (lv_at hl 3 rfl) ?_
  refine lv_iconst (v := 2) hx hb dL_law_170 (by decide) ?_
  refine lv_iadd hx hb dL_law_171 ?_
  refine q_top (y := nI (i + 2)) (by exact nI_add i 2) ?_
  refine va_sld hx hb hX hbl hbA hS (vp_in_nI (show i + 2 < L by omega) (by omega)) dL_law_172 ?_
  refine q_top (y := xs (i + 2)) (by rw [nI_clamp (by omega)]) ?_
  refine lv_aload_n hx hb dL_law_173 rfl (lv_at hl 0 rfl) ?_
  refine lv_iload_n hx hb dL_law_174 rfl (lv_at hl 3 rfl) ?_
  refine lv_iconst (v := 3) hx hb dL_law_175 (by decide) ?_
  refine lv_iadd hx hb dL_law_176 ?_
  refine q_top (y := nI (i + 3)) (by exact nI_add i 3) ?_
  refine va_sld hx hb hX hbl hbA hS (vp_in_nI (show i + 3 < L by omega) (by omega)) dL_law_177 ?_
  refine q_top (y := xs (i + 3)) (by rw [nI_clamp (by omega)]) ?_
  have hDy := hD.sub (ws' := wY y0 y1 y2 y3 y4 y5 c1 (nI n) rec lim gb gj gm gw ft) [6, 7, 8, 9, 10, 11] (by decide) rfl
  refine q_cwj (wX x0 x1 x2 x3 x4 x5 c0 (nI n) rec lim fb u.1 u.2.1 u.2.2 fr) [.int (xs (i + 1)), .int (xs (i + 2)), .int (xs (i + 3))] (rest := [.int r]) ⟨hx, hb, hml, hown, hts⟩ (mX1_jump l dC dI y0 y1 y2 y3 y4 y5 c1 n rec lim gb gj gm gw ft _ J (xs (i + 1)) (xs (i + 2)) (xs (i + 3)) hn hJ1) gL_law_X1_jump rfl rfl rfl hdX1_jump ⟨Nat.le_of_ble_eq_true rfl, Nat.le_of_ble_eq_true rfl⟩ rfl hKy hP hD hS hA [6, 7, 8, 9, 10, 11] [0, 1, 2, 3, 4, 5] hPy hDy rfl rfl (by decide) (by decide) rfl rfl hl.1 rfl (Nat.le_of_ble_eq_true rfl) dL_law_178 ⟨Nat.le_of_ble_eq_true rfl, Nat.le_of_ble_eq_true rfl⟩ (fun r2 v H locs hv hP hD hS => ?_)
  by_cases q : kB (nI n) J (xs (i + 1)) (xs (i + 2)) (xs (i + 3)) = true
  · rw [if_pos q] at hu hv
    obtain ⟨er, eu⟩ := hu
    obtain ⟨er2, ev⟩ := hv
    rw [eu, ev] at hP hD
    refine lv_icmp_eq (tgt := 794) hx hb dL_law_181 (by decide) (fun _ => ?_) (fun c_ => absurd (er.trans er2.symm) c_)
    exact K n _ rec lim fb _ _ _ fr gb _ _ _ H locs ls (rel_put (w := xs (i + 3)) R (kB_of hn q).1 (kB_of hn q).2.1 (kB_of hn q).2.2) hP hD hS hl
  · rw [if_neg q] at hu hv
    obtain ⟨er, eu⟩ := hu
    obtain ⟨er2, ev⟩ := hv
    rw [eu, ev] at hP hD
    refine lv_icmp_eq (tgt := 794) hx hb dL_law_181 (by decide) (fun _ => ?_) (fun c_ => absurd (er.trans er2.symm) c_)
    exact K n J _ _ _ _ _ _ _ _ _ _ _ _ _ ls R hP hD hS hl

set_option maxHeartbeats 4000000 in
set_option maxRecDepth 100000 in
theorem lc_undo {p : Program} {l : Launch} {e : Env} {s : State} {m : MethodId} {below : List Frame} {meth : Method} {c : Code} {dC : Nat → ClassId} {dI : Nat → Nat → Nat} {b L : Nat} {xs : Nat → Int32} {x0 x1 x2 x3 x4 x5 y0 y1 y2 y3 y4 y5 : Nat} {c0 c1 : ClassId} {ft : Nat → Int32} {i : Nat} (hL : L ≤ 3072) (C0 : lw_At p s m meth c b L xs) (hK : va_K (dC, dI) vwCl [(c0, .int), (c1, .int)] s) (hi : i + 6 ≤ L) (K : LK p l e s m below meth c dC dI b x0 x1 x2 x3 x4 x5 y0 y1 y2 y3 y4 y5 c0 c1 ft i 794) : LK p l e s m below meth c dC dI b x0 x1 x2 x3 x4 x5 y0 y1 y2 y3 y4 y5 c0 c1 ft i 186 := by
  intro n J rec lim fb fj fm fw fr gb gj gm gw H locs ls R hP hD hS hl
  obtain ⟨hx, hb, hr, hml, hown, hts, hX, hbl, hlocks, hgv⟩ := C0
  have hown : s.vm.findClass RL = some m.cls := hown
  have hts := fun w h => hts w (wsL_law_in w h)
  have hA : ∀ q : Nat, s.heap.size ≤ q → (fun q : Nat => s.heap.size ≤ q) q := fun _ h => h
  have hbA : ¬ (fun q : Nat => s.heap.size ≤ q) b := Nat.not_le.mpr hbl
  obtain ⟨hn, hJ, hJ1, hJ0, hBb, hM, hV, hT, hB⟩ := id R
  have hKx := hK.sub (tys' := [(c0, .int)]) [0] rfl
  have hKy := hK.sub (tys' := [(c1, .int)]) [1] rfl
  have hPx := hP.sub (ws' := wX x0 x1 x2 x3 x4 x5 c0 (nI n) rec lim fb fj fm fw fr) [0, 1, 2, 3, 4, 5] rfl
  have hPy := hP.sub (ws' := wY y0 y1 y2 y3 y4 y5 c1 (nI n) rec lim gb gj gm gw ft) [6, 7, 8, 9, 10, 11] rfl
  refine lv_aload_n hx hb dL_law_186 rfl (lv_at hl 1 rfl) ?_
  refine lv_aload_n hx hb dL_law_187 rfl (lv_at hl 0 rfl) ?_
  refine lv_iload_n hx hb dL_law_188 rfl (lv_at hl 3 rfl) ?_
  refine lv_iconst (v := 1) hx hb dL_law_189 (by decide) ?_
  refine lv_iadd hx hb dL_law_190 ?_
  refine q_top (y := nI (i + 1)) (by exact nI_add i 1) ?_
  refine va_sld hx hb hX hbl hbA hS (vp_in_nI (show i + 1 < L by omega) (by omega)) dL_law_191 ?_
  refine q_top (y := xs (i + 1)) (by rw [nI_clamp (by omega)]) ?_
  have hDx := hD.sub (ws' := wX x0 x1 x2 x3 x4 x5 c0 (nI n) rec lim fb fj fm fw fr) [0, 1, 2, 3, 4, 5] (by decide) rfl
  refine q_cwj (wY y0 y1 y2 y3 y4 y5 c1 (nI n) rec lim gb gj gm gw ft) [.int (xs (i + 1))] (rest := []) ⟨hx, hb, hml, hown, hts⟩ (mX0_undo l dC dI x0 x1 x2 x3 x4 x5 c0 n rec lim fb fj fm fw fr _ J (xs (i + 1)) hn hJ) gL_law_X0_undo rfl rfl rfl hdX0_undo ⟨Nat.le_of_ble_eq_true rfl, Nat.le_of_ble_eq_true rfl⟩ rfl hKx hP hD hS hA [0, 1, 2, 3, 4, 5] [6, 7, 8, 9, 10, 11] hPx hDx rfl rfl (by decide) (by decide) rfl rfl hl.1 rfl (Nat.le_of_ble_eq_true rfl) dL_law_192 ⟨Nat.le_of_ble_eq_true rfl, Nat.le_of_ble_eq_true rfl⟩ (fun r u H locs hu hP hD hS => ?_)
  have hP := hP.sub (ws' := wX x0 x1 x2 x3 x4 x5 c0 (nI n) rec lim fb u.1 u.2.1 u.2.2 fr ++ wY y0 y1 y2 y3 y4 y5 c1 (nI n) rec lim gb gj gm gw ft) [6, 7, 8, 9, 10, 11, 0, 1, 2, 3, 4, 5] rfl
  have hD := hD.sub (ws' := wX x0 x1 x2 x3 x4 x5 c0 (nI n) rec lim fb u.1 u.2.1 u.2.2 fr ++ wY y0 y1 y2 y3 y4 y5 c1 (nI n) rec lim gb gj gm gw ft) [6, 7, 8, 9, 10, 11, 0, 1, 2, 3, 4, 5] (by decide) rfl
  have hPy := hP.sub (ws' := wY y0 y1 y2 y3 y4 y5 c1 (nI n) rec lim gb gj gm gw ft) [6, 7, 8, 9, 10, 11] rfl
  refine lv_aload_n hx hb dL_law_195 rfl (lv_at hl 2 rfl) ?_
  refine lv_aload_n hx hb dL_law_196 rfl (lv_at hl 0 rfl) ?_
  refine lv_iload_n hx hb dL_law_197 rfl (lv_at hl 3 rfl) ?_
  refine lv_iconst (v := 1) hx hb dL_law_198 (by decide) ?_
  refine lv_iadd hx hb dL_law_199 ?_
  refine q_top (y := nI (i + 1)) (by exact nI_add i 1) ?_
  refine va_sld hx hb hX hbl hbA hS (vp_in_nI (show i + 1 < L by omega) (by omega)) dL_law_200 ?_
  refine q_top (y := xs (i + 1)) (by rw [nI_clamp (by omega)]) ?_
  have hDy := hD.sub (ws' := wY y0 y1 y2 y3 y4 y5 c1 (nI n) rec lim gb gj gm gw ft) [6, 7, 8, 9, 10, 11] (by decide) rfl
  refine q_cwj (wX x0 x1 x2 x3 x4 x5 c0 (nI n) rec lim fb u.1 u.2.1 u.2.2 fr) [.int (xs (i + 1))] (rest := [.int r]) ⟨hx, hb, hml, hown, hts⟩ (mX1_undo l dC dI y0 y1 y2 y3 y4 y5 c1 n rec lim gb gj gm gw ft _ J (xs (i + 1)) hn hJ1) gL_law_X1_undo rfl rfl rfl hdX1_undo ⟨Nat.le_of_ble_eq_true rfl, Nat.le_of_ble_eq_true rfl⟩ rfl hKy hP hD hS hA [6, 7, 8, 9, 10, 11] [0, 1, 2, 3, 4, 5] hPy hDy rfl rfl (by decide) (by decide) rfl rfl hl.1 rfl (Nat.le_of_ble_eq_true rfl) dL_law_201 ⟨Nat.le_of_ble_eq_true rfl, Nat.le_of_ble_eq_true rfl⟩ (fun r2 v H locs hv hP hD hS => ?_)
  by_cases q : uB (nI n) J (xs (i + 1)) = true
  · rw [if_pos q] at hu hv
    obtain ⟨er, eu⟩ := hu
    obtain ⟨er2, ev⟩ := hv
    rw [eu, ev] at hP hD
    refine lv_icmp_eq (tgt := 794) hx hb dL_law_204 (by decide) (fun _ => ?_) (fun c_ => absurd (er.trans er2.symm) c_)
    exact K n _ rec lim fb _ _ _ fr gb _ _ _ H locs ls (rel_take R (uB_of hn q).1 (uB_of hn q).2) hP hD hS hl
  · rw [if_neg q] at hu hv
    obtain ⟨er, eu⟩ := hu
    obtain ⟨er2, ev⟩ := hv
    rw [eu, ev] at hP hD
    refine lv_icmp_eq (tgt := 794) hx hb dL_law_204 (by decide) (fun _ => ?_) (fun c_ => absurd (er.trans er2.symm) c_)
    exact K n J _ _ _ _ _ _ _ _ _ _ _ _ _ ls R hP hD hS hl

set_option maxHeartbeats 4000000 in
set_option maxRecDepth 100000 in
theorem lc_record {p : Program} {l : Launch} {e : Env} {s : State} {m : MethodId} {below : List Frame} {meth : Method} {c : Code} {dC : Nat → ClassId} {dI : Nat → Nat → Nat} {b L : Nat} {xs : Nat → Int32} {x0 x1 x2 x3 x4 x5 y0 y1 y2 y3 y4 y5 : Nat} {c0 c1 : ClassId} {ft : Nat → Int32} {i : Nat} (hL : L ≤ 3072) (C0 : lw_At p s m meth c b L xs) (hK : va_K (dC, dI) vwCl [(c0, .int), (c1, .int)] s) (hi : i + 6 ≤ L) (K : LK p l e s m below meth c dC dI b x0 x1 x2 x3 x4 x5 y0 y1 y2 y3 y4 y5 c0 c1 ft i 794) : LK p l e s m below meth c dC dI b x0 x1 x2 x3 x4 x5 y0 y1 y2 y3 y4 y5 c0 c1 ft i 209 := by
  intro n J rec lim fb fj fm fw fr gb gj gm gw H locs ls R hP hD hS hl
  obtain ⟨hx, hb, hr, hml, hown, hts, hX, hbl, hlocks, hgv⟩ := C0
  have hown : s.vm.findClass RL = some m.cls := hown
  have hts := fun w h => hts w (wsL_law_in w h)
  have hA : ∀ q : Nat, s.heap.size ≤ q → (fun q : Nat => s.heap.size ≤ q) q := fun _ h => h
  have hbA : ¬ (fun q : Nat => s.heap.size ≤ q) b := Nat.not_le.mpr hbl
  obtain ⟨hn, hJ, hJ1, hJ0, hBb, hM, hV, hT, hB⟩ := id R
  have hKx := hK.sub (tys' := [(c0, .int)]) [0] rfl
  have hKy := hK.sub (tys' := [(c1, .int)]) [1] rfl
  have hPx := hP.sub (ws' := wX x0 x1 x2 x3 x4 x5 c0 (nI n) rec lim fb fj fm fw fr) [0, 1, 2, 3, 4, 5] rfl
  have hPy := hP.sub (ws' := wY y0 y1 y2 y3 y4 y5 c1 (nI n) rec lim gb gj gm gw ft) [6, 7, 8, 9, 10, 11] rfl
  refine lv_aload_n hx hb dL_law_209 rfl (lv_at hl 1 rfl) ?_
  refine lv_aload_n hx hb dL_law_210 rfl (lv_at hl 0 rfl) ?_
  refine lv_iload_n hx hb dL_law_211 rfl (lv_at hl 3 rfl) ?_
  refine lv_iconst (v := 1) hx hb dL_law_212 (by decide) ?_
  refine lv_iadd hx hb dL_law_213 ?_
  refine q_top (y := nI (i + 1)) (by exact nI_add i 1) ?_
  refine va_sld hx hb hX hbl hbA hS (vp_in_nI (show i + 1 < L by omega) (by omega)) dL_law_214 ?_
  refine q_top (y := xs (i + 1)) (by rw [nI_clamp (by omega)]) ?_
  have hDx := hD.sub (ws' := wX x0 x1 x2 x3 x4 x5 c0 (nI n) rec lim fb fj fm fw fr) [0, 1, 2, 3, 4, 5] (by decide) rfl
  refine q_cwj (wY y0 y1 y2 y3 y4 y5 c1 (nI n) rec lim gb gj gm gw ft) [.int (xs (i + 1))] (rest := []) ⟨hx, hb, hml, hown, hts⟩ (mX0_record l dC dI x0 x1 x2 x3 x4 x5 c0 n rec lim fb fj fm fw fr _ (xs (i + 1)) ) gL_law_X0_record rfl rfl rfl hdX0_record ⟨Nat.le_of_ble_eq_true rfl, Nat.le_of_ble_eq_true rfl⟩ rfl hKx hP hD hS hA [0, 1, 2, 3, 4, 5] [6, 7, 8, 9, 10, 11] hPx hDx rfl rfl (by decide) (by decide) rfl rfl hl.1 rfl (Nat.le_of_ble_eq_true rfl) dL_law_215 ⟨Nat.le_of_ble_eq_true rfl, Nat.le_of_ble_eq_true rfl⟩ (fun r u H locs hu hP hD hS => ?_)
  have hP := hP.sub (ws' := wX x0 x1 x2 x3 x4 x5 c0 (nI n) u lim fb fj fm fw fr ++ wY y0 y1 y2 y3 y4 y5 c1 (nI n) rec lim gb gj gm gw ft) [6, 7, 8, 9, 10, 11, 0, 1, 2, 3, 4, 5] rfl
  have hD := hD.sub (ws' := wX x0 x1 x2 x3 x4 x5 c0 (nI n) u lim fb fj fm fw fr ++ wY y0 y1 y2 y3 y4 y5 c1 (nI n) rec lim gb gj gm gw ft) [6, 7, 8, 9, 10, 11, 0, 1, 2, 3, 4, 5] (by decide) rfl
  have hPy := hP.sub (ws' := wY y0 y1 y2 y3 y4 y5 c1 (nI n) rec lim gb gj gm gw ft) [6, 7, 8, 9, 10, 11] rfl
  refine lv_aload_n hx hb dL_law_218 rfl (lv_at hl 2 rfl) ?_
  refine lv_aload_n hx hb dL_law_219 rfl (lv_at hl 0 rfl) ?_
  refine lv_iload_n hx hb dL_law_220 rfl (lv_at hl 3 rfl) ?_
  refine lv_iconst (v := 1) hx hb dL_law_221 (by decide) ?_
  refine lv_iadd hx hb dL_law_222 ?_
  refine q_top (y := nI (i + 1)) (by exact nI_add i 1) ?_
  refine va_sld hx hb hX hbl hbA hS (vp_in_nI (show i + 1 < L by omega) (by omega)) dL_law_223 ?_
  refine q_top (y := xs (i + 1)) (by rw [nI_clamp (by omega)]) ?_
  have hDy := hD.sub (ws' := wY y0 y1 y2 y3 y4 y5 c1 (nI n) rec lim gb gj gm gw ft) [6, 7, 8, 9, 10, 11] (by decide) rfl
  refine q_cwj (wX x0 x1 x2 x3 x4 x5 c0 (nI n) u lim fb fj fm fw fr) [.int (xs (i + 1))] (rest := [.int r]) ⟨hx, hb, hml, hown, hts⟩ (mX1_record l dC dI y0 y1 y2 y3 y4 y5 c1 n rec lim gb gj gm gw ft _ (xs (i + 1)) ) gL_law_X1_record rfl rfl rfl hdX1_record ⟨Nat.le_of_ble_eq_true rfl, Nat.le_of_ble_eq_true rfl⟩ rfl hKy hP hD hS hA [6, 7, 8, 9, 10, 11] [0, 1, 2, 3, 4, 5] hPy hDy rfl rfl (by decide) (by decide) rfl rfl hl.1 rfl (Nat.le_of_ble_eq_true rfl) dL_law_224 ⟨Nat.le_of_ble_eq_true rfl, Nat.le_of_ble_eq_true rfl⟩ (fun r2 v H locs hv hP hD hS => ?_)
  by_cases q : mrk (xs (i + 1)) = true
  · rw [if_pos q] at hu hv
    obtain ⟨er, eu⟩ := hu
    obtain ⟨er2, ev⟩ := hv
    rw [eu, ev] at hP hD
    refine lv_icmp_eq (tgt := 794) hx hb dL_law_227 (by decide) (fun _ => ?_) (fun c_ => absurd (er.trans er2.symm) c_)
    exact K n J (xs (i + 1)) lim fb fj fm fw fr gb gj gm gw H locs ls R hP hD hS hl
  · rw [if_neg q] at hu hv
    obtain ⟨er, eu⟩ := hu
    obtain ⟨er2, ev⟩ := hv
    rw [eu, ev] at hP hD
    refine lv_icmp_eq (tgt := 794) hx hb dL_law_227 (by decide) (fun _ => ?_) (fun c_ => absurd (er.trans er2.symm) c_)
    exact K n J _ _ _ _ _ _ _ _ _ _ _ _ _ ls R hP hD hS hl

set_option maxHeartbeats 4000000 in
set_option maxRecDepth 100000 in
theorem lc_limit {p : Program} {l : Launch} {e : Env} {s : State} {m : MethodId} {below : List Frame} {meth : Method} {c : Code} {dC : Nat → ClassId} {dI : Nat → Nat → Nat} {b L : Nat} {xs : Nat → Int32} {x0 x1 x2 x3 x4 x5 y0 y1 y2 y3 y4 y5 : Nat} {c0 c1 : ClassId} {ft : Nat → Int32} {i : Nat} (hL : L ≤ 3072) (C0 : lw_At p s m meth c b L xs) (hK : va_K (dC, dI) vwCl [(c0, .int), (c1, .int)] s) (hi : i + 6 ≤ L) (K : LK p l e s m below meth c dC dI b x0 x1 x2 x3 x4 x5 y0 y1 y2 y3 y4 y5 c0 c1 ft i 794) : LK p l e s m below meth c dC dI b x0 x1 x2 x3 x4 x5 y0 y1 y2 y3 y4 y5 c0 c1 ft i 232 := by
  intro n J rec lim fb fj fm fw fr gb gj gm gw H locs ls R hP hD hS hl
  obtain ⟨hx, hb, hr, hml, hown, hts, hX, hbl, hlocks, hgv⟩ := C0
  have hown : s.vm.findClass RL = some m.cls := hown
  have hts := fun w h => hts w (wsL_law_in w h)
  have hA : ∀ q : Nat, s.heap.size ≤ q → (fun q : Nat => s.heap.size ≤ q) q := fun _ h => h
  have hbA : ¬ (fun q : Nat => s.heap.size ≤ q) b := Nat.not_le.mpr hbl
  obtain ⟨hn, hJ, hJ1, hJ0, hBb, hM, hV, hT, hB⟩ := id R
  have hKx := hK.sub (tys' := [(c0, .int)]) [0] rfl
  have hKy := hK.sub (tys' := [(c1, .int)]) [1] rfl
  have hPx := hP.sub (ws' := wX x0 x1 x2 x3 x4 x5 c0 (nI n) rec lim fb fj fm fw fr) [0, 1, 2, 3, 4, 5] rfl
  have hPy := hP.sub (ws' := wY y0 y1 y2 y3 y4 y5 c1 (nI n) rec lim gb gj gm gw ft) [6, 7, 8, 9, 10, 11] rfl
  refine lv_aload_n hx hb dL_law_232 rfl (lv_at hl 1 rfl) ?_
  refine lv_aload_n hx hb dL_law_233 rfl (lv_at hl 0 rfl) ?_
  refine lv_iload_n hx hb dL_law_234 rfl (lv_at hl 3 rfl) ?_
  refine lv_iconst (v := 1) hx hb dL_law_235 (by decide) ?_
  refine lv_iadd hx hb dL_law_236 ?_
  refine q_top (y := nI (i + 1)) (by exact nI_add i 1) ?_
  refine va_sld hx hb hX hbl hbA hS (vp_in_nI (show i + 1 < L by omega) (by omega)) dL_law_237 ?_
  refine q_top (y := xs (i + 1)) (by rw [nI_clamp (by omega)]) ?_
  have hDx := hD.sub (ws' := wX x0 x1 x2 x3 x4 x5 c0 (nI n) rec lim fb fj fm fw fr) [0, 1, 2, 3, 4, 5] (by decide) rfl
  refine q_cwj (wY y0 y1 y2 y3 y4 y5 c1 (nI n) rec lim gb gj gm gw ft) [.int (xs (i + 1))] (rest := []) ⟨hx, hb, hml, hown, hts⟩ (mX0_limit l dC dI x0 x1 x2 x3 x4 x5 c0 n rec lim fb fj fm fw fr _ (xs (i + 1)) ) gL_law_X0_limit rfl rfl rfl hdX0_limit ⟨Nat.le_of_ble_eq_true rfl, Nat.le_of_ble_eq_true rfl⟩ rfl hKx hP hD hS hA [0, 1, 2, 3, 4, 5] [6, 7, 8, 9, 10, 11] hPx hDx rfl rfl (by decide) (by decide) rfl rfl hl.1 rfl (Nat.le_of_ble_eq_true rfl) dL_law_238 ⟨Nat.le_of_ble_eq_true rfl, Nat.le_of_ble_eq_true rfl⟩ (fun r u H locs hu hP hD hS => ?_)
  have hP := hP.sub (ws' := wX x0 x1 x2 x3 x4 x5 c0 (nI n) rec u fb fj fm fw fr ++ wY y0 y1 y2 y3 y4 y5 c1 (nI n) rec lim gb gj gm gw ft) [6, 7, 8, 9, 10, 11, 0, 1, 2, 3, 4, 5] rfl
  have hD := hD.sub (ws' := wX x0 x1 x2 x3 x4 x5 c0 (nI n) rec u fb fj fm fw fr ++ wY y0 y1 y2 y3 y4 y5 c1 (nI n) rec lim gb gj gm gw ft) [6, 7, 8, 9, 10, 11, 0, 1, 2, 3, 4, 5] (by decide) rfl
  have hPy := hP.sub (ws' := wY y0 y1 y2 y3 y4 y5 c1 (nI n) rec lim gb gj gm gw ft) [6, 7, 8, 9, 10, 11] rfl
  refine lv_aload_n hx hb dL_law_241 rfl (lv_at hl 2 rfl) ?_
  refine lv_aload_n hx hb dL_law_242 rfl (lv_at hl 0 rfl) ?_
  refine lv_iload_n hx hb dL_law_243 rfl (lv_at hl 3 rfl) ?_
  refine lv_iconst (v := 1) hx hb dL_law_244 (by decide) ?_
  refine lv_iadd hx hb dL_law_245 ?_
  refine q_top (y := nI (i + 1)) (by exact nI_add i 1) ?_
  refine va_sld hx hb hX hbl hbA hS (vp_in_nI (show i + 1 < L by omega) (by omega)) dL_law_246 ?_
  refine q_top (y := xs (i + 1)) (by rw [nI_clamp (by omega)]) ?_
  have hDy := hD.sub (ws' := wY y0 y1 y2 y3 y4 y5 c1 (nI n) rec lim gb gj gm gw ft) [6, 7, 8, 9, 10, 11] (by decide) rfl
  refine q_cwj (wX x0 x1 x2 x3 x4 x5 c0 (nI n) rec u fb fj fm fw fr) [.int (xs (i + 1))] (rest := [.int r]) ⟨hx, hb, hml, hown, hts⟩ (mX1_limit l dC dI y0 y1 y2 y3 y4 y5 c1 n rec lim gb gj gm gw ft _ (xs (i + 1)) ) gL_law_X1_limit rfl rfl rfl hdX1_limit ⟨Nat.le_of_ble_eq_true rfl, Nat.le_of_ble_eq_true rfl⟩ rfl hKy hP hD hS hA [6, 7, 8, 9, 10, 11] [0, 1, 2, 3, 4, 5] hPy hDy rfl rfl (by decide) (by decide) rfl rfl hl.1 rfl (Nat.le_of_ble_eq_true rfl) dL_law_247 ⟨Nat.le_of_ble_eq_true rfl, Nat.le_of_ble_eq_true rfl⟩ (fun r2 v H locs hv hP hD hS => ?_)
  by_cases q : wnd (xs (i + 1)) = true
  · rw [if_pos q] at hu hv
    obtain ⟨er, eu⟩ := hu
    obtain ⟨er2, ev⟩ := hv
    rw [eu, ev] at hP hD
    refine lv_icmp_eq (tgt := 794) hx hb dL_law_250 (by decide) (fun _ => ?_) (fun c_ => absurd (er.trans er2.symm) c_)
    exact K n J rec (xs (i + 1)) fb fj fm fw fr gb gj gm gw H locs ls R hP hD hS hl
  · rw [if_neg q] at hu hv
    obtain ⟨er, eu⟩ := hu
    obtain ⟨er2, ev⟩ := hv
    rw [eu, ev] at hP hD
    refine lv_icmp_eq (tgt := 794) hx hb dL_law_250 (by decide) (fun _ => ?_) (fun c_ => absurd (er.trans er2.symm) c_)
    exact K n J _ _ _ _ _ _ _ _ _ _ _ _ _ ls R hP hD hS hl

set_option maxHeartbeats 4000000 in
set_option maxRecDepth 100000 in
theorem lc_value {p : Program} {l : Launch} {e : Env} {s : State} {m : MethodId} {below : List Frame} {meth : Method} {c : Code} {dC : Nat → ClassId} {dI : Nat → Nat → Nat} {b L : Nat} {xs : Nat → Int32} {x0 x1 x2 x3 x4 x5 y0 y1 y2 y3 y4 y5 : Nat} {c0 c1 : ClassId} {ft : Nat → Int32} {i : Nat} (hL : L ≤ 3072) (C0 : lw_At p s m meth c b L xs) (hK : va_K (dC, dI) vwCl [(c0, .int), (c1, .int)] s) (hi : i + 6 ≤ L) (K : LK p l e s m below meth c dC dI b x0 x1 x2 x3 x4 x5 y0 y1 y2 y3 y4 y5 c0 c1 ft i 794) : LK p l e s m below meth c dC dI b x0 x1 x2 x3 x4 x5 y0 y1 y2 y3 y4 y5 c0 c1 ft i 255 := by
  intro n J rec lim fb fj fm fw fr gb gj gm gw H locs ls R hP hD hS hl
  obtain ⟨hx, hb, hr, hml, hown, hts, hX, hbl, hlocks, hgv⟩ := C0
  have hown : s.vm.findClass RL = some m.cls := hown
  have hts := fun w h => hts w (wsL_law_in w h)
  have hA : ∀ q : Nat, s.heap.size ≤ q → (fun q : Nat => s.heap.size ≤ q) q := fun _ h => h
  have hbA : ¬ (fun q : Nat => s.heap.size ≤ q) b := Nat.not_le.mpr hbl
  obtain ⟨hn, hJ, hJ1, hJ0, hBb, hM, hV, hT, hB⟩ := id R
  have hKx := hK.sub (tys' := [(c0, .int)]) [0] rfl
  have hKy := hK.sub (tys' := [(c1, .int)]) [1] rfl
  have hPx := hP.sub (ws' := wX x0 x1 x2 x3 x4 x5 c0 (nI n) rec lim fb fj fm fw fr) [0, 1, 2, 3, 4, 5] rfl
  have hPy := hP.sub (ws' := wY y0 y1 y2 y3 y4 y5 c1 (nI n) rec lim gb gj gm gw ft) [6, 7, 8, 9, 10, 11] rfl
  refine lv_aload_n hx hb dL_law_255 rfl (lv_at hl 1 rfl) ?_
  refine lv_aload_n hx hb dL_law_256 rfl (lv_at hl 0 rfl) ?_
  refine lv_iload_n hx hb dL_law_257 rfl (lv_at hl 3 rfl) ?_
  refine lv_iconst (v := 1) hx hb dL_law_258 (by decide) ?_
  refine lv_iadd hx hb dL_law_259 ?_
  refine q_top (y := nI (i + 1)) (by exact nI_add i 1) ?_
  refine va_sld hx hb hX hbl hbA hS (vp_in_nI (show i + 1 < L by omega) (by omega)) dL_law_260 ?_
  refine q_top (y := xs (i + 1)) (by rw [nI_clamp (by omega)]) ?_
  refine lv_aload_n hx hb dL_law_261 rfl (lv_at hl 0 rfl) ?_
  refine lv_iload_n hx hb dL_law_262 rfl (lv_at hl 3 rfl) ?_
  refine lv_iconst (v := 2) hx hb dL_law_263 (by decide) ?_
  refine lv_iadd hx hb dL_law_264 ?_
  refine q_top (y := nI (i + 2)) (by exact nI_add i 2) ?_
  refine va_sld hx hb hX hbl hbA hS (vp_in_nI (show i + 2 < L by omega) (by omega)) dL_law_265 ?_
  refine q_top (y := xs (i + 2)) (by rw [nI_clamp (by omega)]) ?_
  refine lv_aload_n hx hb dL_law_266 rfl (lv_at hl 0 rfl) ?_
  refine lv_iload_n hx hb dL_law_267 rfl (lv_at hl 3 rfl) ?_
  refine lv_iconst (v := 3) hx hb dL_law_268 (by decide) ?_
  refine lv_iadd hx hb dL_law_269 ?_
  refine q_top (y := nI (i + 3)) (by exact nI_add i 3) ?_
  refine va_sld hx hb hX hbl hbA hS (vp_in_nI (show i + 3 < L by omega) (by omega)) dL_law_270 ?_
  refine q_top (y := xs (i + 3)) (by rw [nI_clamp (by omega)]) ?_
  refine q_cv [.int (xs (i + 1)), .int (xs (i + 2)), .int (xs (i + 3))] (rest := []) ⟨hx, hb, hml, hown, hts⟩ (mX0_value l dC dI x0 x1 x2 x3 x4 x5 c0 n rec lim fb fj fm fw fr (xs (i + 1)) (xs (i + 2)) (xs (i + 3)) hn) gL_law_X0_value rfl rfl rfl hdX0_value ⟨Nat.le_of_ble_eq_true rfl, Nat.le_of_ble_eq_true rfl⟩ rfl hKx hPx rfl rfl hl.1 rfl (Nat.le_of_ble_eq_true rfl) dL_law_271 ⟨Nat.le_of_ble_eq_true rfl, Nat.le_of_ble_eq_true rfl⟩ ?_
  refine lv_aload_n hx hb dL_law_274 rfl (lv_at hl 2 rfl) ?_
  refine lv_aload_n hx hb dL_law_275 rfl (lv_at hl 0 rfl) ?_
  refine lv_iload_n hx hb dL_law_276 rfl (lv_at hl 3 rfl) ?_
  refine lv_iconst (v := 1) hx hb dL_law_277 (by decide) ?_
  refine lv_iadd hx hb dL_law_278 ?_
  refine q_top (y := nI (i + 1)) (by exact nI_add i 1) ?_
  refine va_sld hx hb hX hbl hbA hS (vp_in_nI (show i + 1 < L by omega) (by omega)) dL_law_279 ?_
  refine q_top (y := xs (i + 1)) (by rw [nI_clamp (by omega)]) ?_
  refine lv_aload_n hx hb dL_law_280 rfl (lv_at hl 0 rfl) ?_
  refine lv_iload_n hx hb dL_law_281 rfl (lv_at hl 3 rfl) ?_
  refine lv_iconst (v := 2) hx hb dL_law_282 (by decide) ?_
  refine lv_iadd hx hb dL_law_283 ?_
  refine q_top (y := nI (i + 2)) (by exact nI_add i 2) ?_
  refine va_sld hx hb hX hbl hbA hS (vp_in_nI (show i + 2 < L by omega) (by omega)) dL_law_284 ?_
  refine q_top (y := xs (i + 2)) (by rw [nI_clamp (by omega)]) ?_
  refine lv_aload_n hx hb dL_law_285 rfl (lv_at hl 0 rfl) ?_
  refine lv_iload_n hx hb dL_law_286 rfl (lv_at hl 3 rfl) ?_
  refine lv_iconst (v := 3) hx hb dL_law_287 (by decide) ?_
  refine lv_iadd hx hb dL_law_288 ?_
  refine q_top (y := nI (i + 3)) (by exact nI_add i 3) ?_
  refine va_sld hx hb hX hbl hbA hS (vp_in_nI (show i + 3 < L by omega) (by omega)) dL_law_289 ?_
  refine q_top (y := xs (i + 3)) (by rw [nI_clamp (by omega)]) ?_
  refine q_cv [.int (xs (i + 1)), .int (xs (i + 2)), .int (xs (i + 3))] (rest := [.int (aValue (mk fm) (mk fw) (nI n) (xs (i + 1)) (xs (i + 2)) (xs (i + 3)))]) ⟨hx, hb, hml, hown, hts⟩ (mX1_value l dC dI y0 y1 y2 y3 y4 y5 c1 n rec lim gb gj gm gw ft (mk fm) (mk fw) (xs (i + 1)) (xs (i + 2)) (xs (i + 3)) hM hV hn) gL_law_X1_value rfl rfl rfl hdX1_value ⟨Nat.le_of_ble_eq_true rfl, Nat.le_of_ble_eq_true rfl⟩ rfl hKy hPy rfl rfl hl.1 rfl (Nat.le_of_ble_eq_true rfl) dL_law_290 ⟨Nat.le_of_ble_eq_true rfl, Nat.le_of_ble_eq_true rfl⟩ ?_
  refine lv_icmp_eq (tgt := 794) hx hb dL_law_293 (by decide) (fun _ => ?_) (fun c_ => absurd (rfl) c_)
  exact K n J rec lim fb fj fm fw fr gb gj gm gw H locs ls R hP hD hS hl

set_option maxHeartbeats 4000000 in
set_option maxRecDepth 100000 in
theorem lc_fits {p : Program} {l : Launch} {e : Env} {s : State} {m : MethodId} {below : List Frame} {meth : Method} {c : Code} {dC : Nat → ClassId} {dI : Nat → Nat → Nat} {b L : Nat} {xs : Nat → Int32} {x0 x1 x2 x3 x4 x5 y0 y1 y2 y3 y4 y5 : Nat} {c0 c1 : ClassId} {ft : Nat → Int32} {i : Nat} (hL : L ≤ 3072) (C0 : lw_At p s m meth c b L xs) (hK : va_K (dC, dI) vwCl [(c0, .int), (c1, .int)] s) (hi : i + 6 ≤ L) (K : LK p l e s m below meth c dC dI b x0 x1 x2 x3 x4 x5 y0 y1 y2 y3 y4 y5 c0 c1 ft i 794) : LK p l e s m below meth c dC dI b x0 x1 x2 x3 x4 x5 y0 y1 y2 y3 y4 y5 c0 c1 ft i 298 := by
  intro n J rec lim fb fj fm fw fr gb gj gm gw H locs ls R hP hD hS hl
  obtain ⟨hx, hb, hr, hml, hown, hts, hX, hbl, hlocks, hgv⟩ := C0
  have hown : s.vm.findClass RL = some m.cls := hown
  have hts := fun w h => hts w (wsL_law_in w h)
  have hA : ∀ q : Nat, s.heap.size ≤ q → (fun q : Nat => s.heap.size ≤ q) q := fun _ h => h
  have hbA : ¬ (fun q : Nat => s.heap.size ≤ q) b := Nat.not_le.mpr hbl
  obtain ⟨hn, hJ, hJ1, hJ0, hBb, hM, hV, hT, hB⟩ := id R
  have hKx := hK.sub (tys' := [(c0, .int)]) [0] rfl
  have hKy := hK.sub (tys' := [(c1, .int)]) [1] rfl
  have hPx := hP.sub (ws' := wX x0 x1 x2 x3 x4 x5 c0 (nI n) rec lim fb fj fm fw fr) [0, 1, 2, 3, 4, 5] rfl
  have hPy := hP.sub (ws' := wY y0 y1 y2 y3 y4 y5 c1 (nI n) rec lim gb gj gm gw ft) [6, 7, 8, 9, 10, 11] rfl
  refine lv_aload_n hx hb dL_law_298 rfl (lv_at hl 1 rfl) ?_
  refine lv_aload_n hx hb dL_law_299 rfl (lv_at hl 0 rfl) ?_
  refine lv_iload_n hx hb dL_law_300 rfl (lv_at hl 3 rfl) ?_
  refine lv_iconst (v := 1) hx hb dL_law_301 (by decide) ?_
  refine lv_iadd hx hb dL_law_302 ?_
  refine q_top (y := nI (i + 1)) (by exact nI_add i 1) ?_
  refine va_sld hx hb hX hbl hbA hS (vp_in_nI (show i + 1 < L by omega) (by omega)) dL_law_303 ?_
  refine q_top (y := xs (i + 1)) (by rw [nI_clamp (by omega)]) ?_
  refine lv_aload_n hx hb dL_law_304 rfl (lv_at hl 0 rfl) ?_
  refine lv_iload_n hx hb dL_law_305 rfl (lv_at hl 3 rfl) ?_
  refine lv_iconst (v := 2) hx hb dL_law_306 (by decide) ?_
  refine lv_iadd hx hb dL_law_307 ?_
  refine q_top (y := nI (i + 2)) (by exact nI_add i 2) ?_
  refine va_sld hx hb hX hbl hbA hS (vp_in_nI (show i + 2 < L by omega) (by omega)) dL_law_308 ?_
  refine q_top (y := xs (i + 2)) (by rw [nI_clamp (by omega)]) ?_
  refine lv_aload_n hx hb dL_law_309 rfl (lv_at hl 0 rfl) ?_
  refine lv_iload_n hx hb dL_law_310 rfl (lv_at hl 3 rfl) ?_
  refine lv_iconst (v := 3) hx hb dL_law_311 (by decide) ?_
  refine lv_iadd hx hb dL_law_312 ?_
  refine q_top (y := nI (i + 3)) (by exact nI_add i 3) ?_
  refine va_sld hx hb hX hbl hbA hS (vp_in_nI (show i + 3 < L by omega) (by omega)) dL_law_313 ?_
  refine q_top (y := xs (i + 3)) (by rw [nI_clamp (by omega)]) ?_
  refine lv_aload_n hx hb dL_law_314 rfl (lv_at hl 0 rfl) ?_
  refine lv_iload_n hx hb dL_law_315 rfl (lv_at hl 3 rfl) ?_
  refine lv_iconst (v := 4) hx hb dL_law_316 (by decide) ?_
  refine lv_iadd hx hb dL_law_317 ?_
  refine q_top (y := nI (i + 4)) (by exact nI_add i 4) ?_
  refine va_sld hx hb hX hbl hbA hS (vp_in_nI (show i + 4 < L by omega) (by omega)) dL_law_318 ?_
  refine q_top (y := xs (i + 4)) (by rw [nI_clamp (by omega)]) ?_
  refine lv_aload_n hx hb dL_law_319 rfl (lv_at hl 0 rfl) ?_
  refine lv_iload_n hx hb dL_law_320 rfl (lv_at hl 3 rfl) ?_
  refine lv_iconst (v := 5) hx hb dL_law_321 (by decide) ?_
  refine lv_iadd hx hb dL_law_322 ?_
  refine q_top (y := nI (i + 5)) (by exact nI_add i 5) ?_
  refine va_sld hx hb hX hbl hbA hS (vp_in_nI (show i + 5 < L by omega) (by omega)) dL_law_323 ?_
  refine q_top (y := xs (i + 5)) (by rw [nI_clamp (by omega)]) ?_
  refine q_cv [.int (xs (i + 1)), .int (xs (i + 2)), .int (xs (i + 3)), .int (xs (i + 4)), .int (xs (i + 5))] (rest := []) ⟨hx, hb, hml, hown, hts⟩ (mX0_fits l dC dI x0 x1 x2 x3 x4 x5 c0 n rec lim fb fj fm fw fr (xs (i + 1)) (xs (i + 2)) (xs (i + 3)) (xs (i + 4)) (xs (i + 5)) hn) gL_law_X0_fits rfl rfl rfl hdX0_fits ⟨Nat.le_of_ble_eq_true rfl, Nat.le_of_ble_eq_true rfl⟩ rfl hKx hPx rfl rfl hl.1 rfl (Nat.le_of_ble_eq_true rfl) dL_law_324 ⟨Nat.le_of_ble_eq_true rfl, Nat.le_of_ble_eq_true rfl⟩ ?_
  refine lv_aload_n hx hb dL_law_327 rfl (lv_at hl 2 rfl) ?_
  refine lv_aload_n hx hb dL_law_328 rfl (lv_at hl 0 rfl) ?_
  refine lv_iload_n hx hb dL_law_329 rfl (lv_at hl 3 rfl) ?_
  refine lv_iconst (v := 1) hx hb dL_law_330 (by decide) ?_
  refine lv_iadd hx hb dL_law_331 ?_
  refine q_top (y := nI (i + 1)) (by exact nI_add i 1) ?_
  refine va_sld hx hb hX hbl hbA hS (vp_in_nI (show i + 1 < L by omega) (by omega)) dL_law_332 ?_
  refine q_top (y := xs (i + 1)) (by rw [nI_clamp (by omega)]) ?_
  refine lv_aload_n hx hb dL_law_333 rfl (lv_at hl 0 rfl) ?_
  refine lv_iload_n hx hb dL_law_334 rfl (lv_at hl 3 rfl) ?_
  refine lv_iconst (v := 2) hx hb dL_law_335 (by decide) ?_
  refine lv_iadd hx hb dL_law_336 ?_
  refine q_top (y := nI (i + 2)) (by exact nI_add i 2) ?_
  refine va_sld hx hb hX hbl hbA hS (vp_in_nI (show i + 2 < L by omega) (by omega)) dL_law_337 ?_
  refine q_top (y := xs (i + 2)) (by rw [nI_clamp (by omega)]) ?_
  refine lv_aload_n hx hb dL_law_338 rfl (lv_at hl 0 rfl) ?_
  refine lv_iload_n hx hb dL_law_339 rfl (lv_at hl 3 rfl) ?_
  refine lv_iconst (v := 3) hx hb dL_law_340 (by decide) ?_
  refine lv_iadd hx hb dL_law_341 ?_
  refine q_top (y := nI (i + 3)) (by exact nI_add i 3) ?_
  refine va_sld hx hb hX hbl hbA hS (vp_in_nI (show i + 3 < L by omega) (by omega)) dL_law_342 ?_
  refine q_top (y := xs (i + 3)) (by rw [nI_clamp (by omega)]) ?_
  refine lv_aload_n hx hb dL_law_343 rfl (lv_at hl 0 rfl) ?_
  refine lv_iload_n hx hb dL_law_344 rfl (lv_at hl 3 rfl) ?_
  refine lv_iconst (v := 4) hx hb dL_law_345 (by decide) ?_
  refine lv_iadd hx hb dL_law_346 ?_
  refine q_top (y := nI (i + 4)) (by exact nI_add i 4) ?_
  refine va_sld hx hb hX hbl hbA hS (vp_in_nI (show i + 4 < L by omega) (by omega)) dL_law_347 ?_
  refine q_top (y := xs (i + 4)) (by rw [nI_clamp (by omega)]) ?_
  refine lv_aload_n hx hb dL_law_348 rfl (lv_at hl 0 rfl) ?_
  refine lv_iload_n hx hb dL_law_349 rfl (lv_at hl 3 rfl) ?_
  refine lv_iconst (v := 5) hx hb dL_law_350 (by decide) ?_
  refine lv_iadd hx hb dL_law_351 ?_
  refine q_top (y := nI (i + 5)) (by exact nI_add i 5) ?_
  refine va_sld hx hb hX hbl hbA hS (vp_in_nI (show i + 5 < L by omega) (by omega)) dL_law_352 ?_
  refine q_top (y := xs (i + 5)) (by rw [nI_clamp (by omega)]) ?_
  refine q_cv [.int (xs (i + 1)), .int (xs (i + 2)), .int (xs (i + 3)), .int (xs (i + 4)), .int (xs (i + 5))] (rest := [.int (aFits (mk fm) (mk fw) (nI n) (xs (i + 1)) (xs (i + 2)) (xs (i + 3)) (xs (i + 4)) (xs (i + 5)))]) ⟨hx, hb, hml, hown, hts⟩ (mX1_fits l dC dI y0 y1 y2 y3 y4 y5 c1 n rec lim gb gj gm gw ft (mk fm) (mk fw) (xs (i + 1)) (xs (i + 2)) (xs (i + 3)) (xs (i + 4)) (xs (i + 5)) hM hV hT hn) gL_law_X1_fits rfl rfl rfl hdX1_fits ⟨Nat.le_of_ble_eq_true rfl, Nat.le_of_ble_eq_true rfl⟩ rfl hKy hPy rfl rfl hl.1 rfl (Nat.le_of_ble_eq_true rfl) dL_law_353 ⟨Nat.le_of_ble_eq_true rfl, Nat.le_of_ble_eq_true rfl⟩ ?_
  refine lv_icmp_eq (tgt := 794) hx hb dL_law_356 (by decide) (fun _ => ?_) (fun c_ => absurd (rfl) c_)
  exact K n J rec lim fb fj fm fw fr gb gj gm gw H locs ls R hP hD hS hl

set_option maxHeartbeats 4000000 in
set_option maxRecDepth 100000 in
theorem lc_count {p : Program} {l : Launch} {e : Env} {s : State} {m : MethodId} {below : List Frame} {meth : Method} {c : Code} {dC : Nat → ClassId} {dI : Nat → Nat → Nat} {b L : Nat} {xs : Nat → Int32} {x0 x1 x2 x3 x4 x5 y0 y1 y2 y3 y4 y5 : Nat} {c0 c1 : ClassId} {ft : Nat → Int32} {i : Nat} (hL : L ≤ 3072) (C0 : lw_At p s m meth c b L xs) (hK : va_K (dC, dI) vwCl [(c0, .int), (c1, .int)] s) (hi : i + 6 ≤ L) (K : LK p l e s m below meth c dC dI b x0 x1 x2 x3 x4 x5 y0 y1 y2 y3 y4 y5 c0 c1 ft i 794) : LK p l e s m below meth c dC dI b x0 x1 x2 x3 x4 x5 y0 y1 y2 y3 y4 y5 c0 c1 ft i 361 := by
  intro n J rec lim fb fj fm fw fr gb gj gm gw H locs ls R hP hD hS hl
  obtain ⟨hx, hb, hr, hml, hown, hts, hX, hbl, hlocks, hgv⟩ := C0
  have hown : s.vm.findClass RL = some m.cls := hown
  have hts := fun w h => hts w (wsL_law_in w h)
  have hA : ∀ q : Nat, s.heap.size ≤ q → (fun q : Nat => s.heap.size ≤ q) q := fun _ h => h
  have hbA : ¬ (fun q : Nat => s.heap.size ≤ q) b := Nat.not_le.mpr hbl
  obtain ⟨hn, hJ, hJ1, hJ0, hBb, hM, hV, hT, hB⟩ := id R
  have hKx := hK.sub (tys' := [(c0, .int)]) [0] rfl
  have hKy := hK.sub (tys' := [(c1, .int)]) [1] rfl
  have hPx := hP.sub (ws' := wX x0 x1 x2 x3 x4 x5 c0 (nI n) rec lim fb fj fm fw fr) [0, 1, 2, 3, 4, 5] rfl
  have hPy := hP.sub (ws' := wY y0 y1 y2 y3 y4 y5 c1 (nI n) rec lim gb gj gm gw ft) [6, 7, 8, 9, 10, 11] rfl
  refine lv_aload_n hx hb dL_law_361 rfl (lv_at hl 1 rfl) ?_
  refine lv_aload_n hx hb dL_law_362 rfl (lv_at hl 0 rfl) ?_
  refine lv_iload_n hx hb dL_law_363 rfl (lv_at hl 3 rfl) ?_
  refine lv_iconst (v := 1) hx hb dL_law_364 (by decide) ?_
  refine lv_iadd hx hb dL_law_365 ?_
  refine q_top (y := nI (i + 1)) (by exact nI_add i 1) ?_
  refine va_sld hx hb hX hbl hbA hS (vp_in_nI (show i + 1 < L by omega) (by omega)) dL_law_366 ?_
  refine q_top (y := xs (i + 1)) (by rw [nI_clamp (by omega)]) ?_
  refine lv_aload_n hx hb dL_law_367 rfl (lv_at hl 0 rfl) ?_
  refine lv_iload_n hx hb dL_law_368 rfl (lv_at hl 3 rfl) ?_
  refine lv_iconst (v := 2) hx hb dL_law_369 (by decide) ?_
  refine lv_iadd hx hb dL_law_370 ?_
  refine q_top (y := nI (i + 2)) (by exact nI_add i 2) ?_
  refine va_sld hx hb hX hbl hbA hS (vp_in_nI (show i + 2 < L by omega) (by omega)) dL_law_371 ?_
  refine q_top (y := xs (i + 2)) (by rw [nI_clamp (by omega)]) ?_
  refine lv_aload_n hx hb dL_law_372 rfl (lv_at hl 0 rfl) ?_
  refine lv_iload_n hx hb dL_law_373 rfl (lv_at hl 3 rfl) ?_
  refine lv_iconst (v := 3) hx hb dL_law_374 (by decide) ?_
  refine lv_iadd hx hb dL_law_375 ?_
  refine q_top (y := nI (i + 3)) (by exact nI_add i 3) ?_
  refine va_sld hx hb hX hbl hbA hS (vp_in_nI (show i + 3 < L by omega) (by omega)) dL_law_376 ?_
  refine q_top (y := xs (i + 3)) (by rw [nI_clamp (by omega)]) ?_
  refine lv_aload_n hx hb dL_law_377 rfl (lv_at hl 0 rfl) ?_
  refine lv_iload_n hx hb dL_law_378 rfl (lv_at hl 3 rfl) ?_
  refine lv_iconst (v := 4) hx hb dL_law_379 (by decide) ?_
  refine lv_iadd hx hb dL_law_380 ?_
  refine q_top (y := nI (i + 4)) (by exact nI_add i 4) ?_
  refine va_sld hx hb hX hbl hbA hS (vp_in_nI (show i + 4 < L by omega) (by omega)) dL_law_381 ?_
  refine q_top (y := xs (i + 4)) (by rw [nI_clamp (by omega)]) ?_
  refine q_cv [.int (xs (i + 1)), .int (xs (i + 2)), .int (xs (i + 3)), .int (xs (i + 4))] (rest := []) ⟨hx, hb, hml, hown, hts⟩ (mX0_count l dC dI x0 x1 x2 x3 x4 x5 c0 n rec lim fb fj fm fw fr (xs (i + 1)) (xs (i + 2)) (xs (i + 3)) (xs (i + 4)) hn) gL_law_X0_count rfl rfl rfl hdX0_count ⟨Nat.le_of_ble_eq_true rfl, Nat.le_of_ble_eq_true rfl⟩ rfl hKx hPx rfl rfl hl.1 rfl (Nat.le_of_ble_eq_true rfl) dL_law_382 ⟨Nat.le_of_ble_eq_true rfl, Nat.le_of_ble_eq_true rfl⟩ ?_
  refine lv_aload_n hx hb dL_law_385 rfl (lv_at hl 2 rfl) ?_
  refine lv_aload_n hx hb dL_law_386 rfl (lv_at hl 0 rfl) ?_
  refine lv_iload_n hx hb dL_law_387 rfl (lv_at hl 3 rfl) ?_
  refine lv_iconst (v := 1) hx hb dL_law_388 (by decide) ?_
  refine lv_iadd hx hb dL_law_389 ?_
  refine q_top (y := nI (i + 1)) (by exact nI_add i 1) ?_
  refine va_sld hx hb hX hbl hbA hS (vp_in_nI (show i + 1 < L by omega) (by omega)) dL_law_390 ?_
  refine q_top (y := xs (i + 1)) (by rw [nI_clamp (by omega)]) ?_
  refine lv_aload_n hx hb dL_law_391 rfl (lv_at hl 0 rfl) ?_
  refine lv_iload_n hx hb dL_law_392 rfl (lv_at hl 3 rfl) ?_
  refine lv_iconst (v := 2) hx hb dL_law_393 (by decide) ?_
  refine lv_iadd hx hb dL_law_394 ?_
  refine q_top (y := nI (i + 2)) (by exact nI_add i 2) ?_
  refine va_sld hx hb hX hbl hbA hS (vp_in_nI (show i + 2 < L by omega) (by omega)) dL_law_395 ?_
  refine q_top (y := xs (i + 2)) (by rw [nI_clamp (by omega)]) ?_
  refine lv_aload_n hx hb dL_law_396 rfl (lv_at hl 0 rfl) ?_
  refine lv_iload_n hx hb dL_law_397 rfl (lv_at hl 3 rfl) ?_
  refine lv_iconst (v := 3) hx hb dL_law_398 (by decide) ?_
  refine lv_iadd hx hb dL_law_399 ?_
  refine q_top (y := nI (i + 3)) (by exact nI_add i 3) ?_
  refine va_sld hx hb hX hbl hbA hS (vp_in_nI (show i + 3 < L by omega) (by omega)) dL_law_400 ?_
  refine q_top (y := xs (i + 3)) (by rw [nI_clamp (by omega)]) ?_
  refine lv_aload_n hx hb dL_law_401 rfl (lv_at hl 0 rfl) ?_
  refine lv_iload_n hx hb dL_law_402 rfl (lv_at hl 3 rfl) ?_
  refine lv_iconst (v := 4) hx hb dL_law_403 (by decide) ?_
  refine lv_iadd hx hb dL_law_404 ?_
  refine q_top (y := nI (i + 4)) (by exact nI_add i 4) ?_
  refine va_sld hx hb hX hbl hbA hS (vp_in_nI (show i + 4 < L by omega) (by omega)) dL_law_405 ?_
  refine q_top (y := xs (i + 4)) (by rw [nI_clamp (by omega)]) ?_
  refine q_cv [.int (xs (i + 1)), .int (xs (i + 2)), .int (xs (i + 3)), .int (xs (i + 4))] (rest := [.int (aCount (mk fm) (mk fw) (nI n) (xs (i + 1)) (xs (i + 2)) (xs (i + 3)) (xs (i + 4)))]) ⟨hx, hb, hml, hown, hts⟩ (mX1_count l dC dI y0 y1 y2 y3 y4 y5 c1 n rec lim gb gj gm gw ft (mk fm) (mk fw) (xs (i + 1)) (xs (i + 2)) (xs (i + 3)) (xs (i + 4)) hM hV hT hn) gL_law_X1_count rfl rfl rfl hdX1_count ⟨Nat.le_of_ble_eq_true rfl, Nat.le_of_ble_eq_true rfl⟩ rfl hKy hPy rfl rfl hl.1 rfl (Nat.le_of_ble_eq_true rfl) dL_law_406 ⟨Nat.le_of_ble_eq_true rfl, Nat.le_of_ble_eq_true rfl⟩ ?_
  refine lv_icmp_eq (tgt := 794) hx hb dL_law_409 (by decide) (fun _ => ?_) (fun c_ => absurd (rfl) c_)
  exact K n J rec lim fb fj fm fw fr gb gj gm gw H locs ls R hP hD hS hl

set_option maxHeartbeats 4000000 in
set_option maxRecDepth 100000 in
theorem lc_turned {p : Program} {l : Launch} {e : Env} {s : State} {m : MethodId} {below : List Frame} {meth : Method} {c : Code} {dC : Nat → ClassId} {dI : Nat → Nat → Nat} {b L : Nat} {xs : Nat → Int32} {x0 x1 x2 x3 x4 x5 y0 y1 y2 y3 y4 y5 : Nat} {c0 c1 : ClassId} {ft : Nat → Int32} {i : Nat} (hL : L ≤ 3072) (C0 : lw_At p s m meth c b L xs) (hK : va_K (dC, dI) vwCl [(c0, .int), (c1, .int)] s) (hi : i + 6 ≤ L) (K : LK p l e s m below meth c dC dI b x0 x1 x2 x3 x4 x5 y0 y1 y2 y3 y4 y5 c0 c1 ft i 794) : LK p l e s m below meth c dC dI b x0 x1 x2 x3 x4 x5 y0 y1 y2 y3 y4 y5 c0 c1 ft i 414 := by
  intro n J rec lim fb fj fm fw fr gb gj gm gw H locs ls R hP hD hS hl
  obtain ⟨hx, hb, hr, hml, hown, hts, hX, hbl, hlocks, hgv⟩ := C0
  have hown : s.vm.findClass RL = some m.cls := hown
  have hts := fun w h => hts w (wsL_law_in w h)
  have hA : ∀ q : Nat, s.heap.size ≤ q → (fun q : Nat => s.heap.size ≤ q) q := fun _ h => h
  have hbA : ¬ (fun q : Nat => s.heap.size ≤ q) b := Nat.not_le.mpr hbl
  obtain ⟨hn, hJ, hJ1, hJ0, hBb, hM, hV, hT, hB⟩ := id R
  have hKx := hK.sub (tys' := [(c0, .int)]) [0] rfl
  have hKy := hK.sub (tys' := [(c1, .int)]) [1] rfl
  have hPx := hP.sub (ws' := wX x0 x1 x2 x3 x4 x5 c0 (nI n) rec lim fb fj fm fw fr) [0, 1, 2, 3, 4, 5] rfl
  have hPy := hP.sub (ws' := wY y0 y1 y2 y3 y4 y5 c1 (nI n) rec lim gb gj gm gw ft) [6, 7, 8, 9, 10, 11] rfl
  refine lv_aload_n hx hb dL_law_414 rfl (lv_at hl 1 rfl) ?_
  refine lv_aload_n hx hb dL_law_415 rfl (lv_at hl 0 rfl) ?_
  refine lv_iload_n hx hb dL_law_416 rfl (lv_at hl 3 rfl) ?_
  refine lv_iconst (v := 1) hx hb dL_law_417 (by decide) ?_
  refine lv_iadd hx hb dL_law_418 ?_
  refine q_top (y := nI (i + 1)) (by exact nI_add i 1) ?_
  refine va_sld hx hb hX hbl hbA hS (vp_in_nI (show i + 1 < L by omega) (by omega)) dL_law_419 ?_
  refine q_top (y := xs (i + 1)) (by rw [nI_clamp (by omega)]) ?_
  refine lv_aload_n hx hb dL_law_420 rfl (lv_at hl 0 rfl) ?_
  refine lv_iload_n hx hb dL_law_421 rfl (lv_at hl 3 rfl) ?_
  refine lv_iconst (v := 2) hx hb dL_law_422 (by decide) ?_
  refine lv_iadd hx hb dL_law_423 ?_
  refine q_top (y := nI (i + 2)) (by exact nI_add i 2) ?_
  refine va_sld hx hb hX hbl hbA hS (vp_in_nI (show i + 2 < L by omega) (by omega)) dL_law_424 ?_
  refine q_top (y := xs (i + 2)) (by rw [nI_clamp (by omega)]) ?_
  refine lv_aload_n hx hb dL_law_425 rfl (lv_at hl 0 rfl) ?_
  refine lv_iload_n hx hb dL_law_426 rfl (lv_at hl 3 rfl) ?_
  refine lv_iconst (v := 3) hx hb dL_law_427 (by decide) ?_
  refine lv_iadd hx hb dL_law_428 ?_
  refine q_top (y := nI (i + 3)) (by exact nI_add i 3) ?_
  refine va_sld hx hb hX hbl hbA hS (vp_in_nI (show i + 3 < L by omega) (by omega)) dL_law_429 ?_
  refine q_top (y := xs (i + 3)) (by rw [nI_clamp (by omega)]) ?_
  refine lv_aload_n hx hb dL_law_430 rfl (lv_at hl 0 rfl) ?_
  refine lv_iload_n hx hb dL_law_431 rfl (lv_at hl 3 rfl) ?_
  refine lv_iconst (v := 4) hx hb dL_law_432 (by decide) ?_
  refine lv_iadd hx hb dL_law_433 ?_
  refine q_top (y := nI (i + 4)) (by exact nI_add i 4) ?_
  refine va_sld hx hb hX hbl hbA hS (vp_in_nI (show i + 4 < L by omega) (by omega)) dL_law_434 ?_
  refine q_top (y := xs (i + 4)) (by rw [nI_clamp (by omega)]) ?_
  refine q_cv [.int (xs (i + 1)), .int (xs (i + 2)), .int (xs (i + 3)), .int (xs (i + 4))] (rest := []) ⟨hx, hb, hml, hown, hts⟩ (mX0_turned l dC dI x0 x1 x2 x3 x4 x5 c0 n rec lim fb fj fm fw fr (xs (i + 1)) (xs (i + 2)) (xs (i + 3)) (xs (i + 4)) hn) gL_law_X0_turned rfl rfl rfl hdX0_turned ⟨Nat.le_of_ble_eq_true rfl, Nat.le_of_ble_eq_true rfl⟩ rfl hKx hPx rfl rfl hl.1 rfl (Nat.le_of_ble_eq_true rfl) dL_law_435 ⟨Nat.le_of_ble_eq_true rfl, Nat.le_of_ble_eq_true rfl⟩ ?_
  refine lv_aload_n hx hb dL_law_438 rfl (lv_at hl 2 rfl) ?_
  refine lv_aload_n hx hb dL_law_439 rfl (lv_at hl 0 rfl) ?_
  refine lv_iload_n hx hb dL_law_440 rfl (lv_at hl 3 rfl) ?_
  refine lv_iconst (v := 1) hx hb dL_law_441 (by decide) ?_
  refine lv_iadd hx hb dL_law_442 ?_
  refine q_top (y := nI (i + 1)) (by exact nI_add i 1) ?_
  refine va_sld hx hb hX hbl hbA hS (vp_in_nI (show i + 1 < L by omega) (by omega)) dL_law_443 ?_
  refine q_top (y := xs (i + 1)) (by rw [nI_clamp (by omega)]) ?_
  refine lv_aload_n hx hb dL_law_444 rfl (lv_at hl 0 rfl) ?_
  refine lv_iload_n hx hb dL_law_445 rfl (lv_at hl 3 rfl) ?_
  refine lv_iconst (v := 2) hx hb dL_law_446 (by decide) ?_
  refine lv_iadd hx hb dL_law_447 ?_
  refine q_top (y := nI (i + 2)) (by exact nI_add i 2) ?_
  refine va_sld hx hb hX hbl hbA hS (vp_in_nI (show i + 2 < L by omega) (by omega)) dL_law_448 ?_
  refine q_top (y := xs (i + 2)) (by rw [nI_clamp (by omega)]) ?_
  refine lv_aload_n hx hb dL_law_449 rfl (lv_at hl 0 rfl) ?_
  refine lv_iload_n hx hb dL_law_450 rfl (lv_at hl 3 rfl) ?_
  refine lv_iconst (v := 3) hx hb dL_law_451 (by decide) ?_
  refine lv_iadd hx hb dL_law_452 ?_
  refine q_top (y := nI (i + 3)) (by exact nI_add i 3) ?_
  refine va_sld hx hb hX hbl hbA hS (vp_in_nI (show i + 3 < L by omega) (by omega)) dL_law_453 ?_
  refine q_top (y := xs (i + 3)) (by rw [nI_clamp (by omega)]) ?_
  refine lv_aload_n hx hb dL_law_454 rfl (lv_at hl 0 rfl) ?_
  refine lv_iload_n hx hb dL_law_455 rfl (lv_at hl 3 rfl) ?_
  refine lv_iconst (v := 4) hx hb dL_law_456 (by decide) ?_
  refine lv_iadd hx hb dL_law_457 ?_
  refine q_top (y := nI (i + 4)) (by exact nI_add i 4) ?_
  refine va_sld hx hb hX hbl hbA hS (vp_in_nI (show i + 4 < L by omega) (by omega)) dL_law_458 ?_
  refine q_top (y := xs (i + 4)) (by rw [nI_clamp (by omega)]) ?_
  refine q_cv [.int (xs (i + 1)), .int (xs (i + 2)), .int (xs (i + 3)), .int (xs (i + 4))] (rest := [.int (aTurned (mk fm) (mk fw) (nI n) (xs (i + 1)) (xs (i + 2)) (xs (i + 3)) (xs (i + 4)))]) ⟨hx, hb, hml, hown, hts⟩ (mX1_turned l dC dI y0 y1 y2 y3 y4 y5 c1 n rec lim gb gj gm gw ft (mk fm) (mk fw) (xs (i + 1)) (xs (i + 2)) (xs (i + 3)) (xs (i + 4)) hM hV hT hn) gL_law_X1_turned rfl rfl rfl hdX1_turned ⟨Nat.le_of_ble_eq_true rfl, Nat.le_of_ble_eq_true rfl⟩ rfl hKy hPy rfl rfl hl.1 rfl (Nat.le_of_ble_eq_true rfl) dL_law_459 ⟨Nat.le_of_ble_eq_true rfl, Nat.le_of_ble_eq_true rfl⟩ ?_
  refine lv_icmp_eq (tgt := 794) hx hb dL_law_462 (by decide) (fun _ => ?_) (fun c_ => absurd (rfl) c_)
  exact K n J rec lim fb fj fm fw fr gb gj gm gw H locs ls R hP hD hS hl

set_option maxHeartbeats 4000000 in
set_option maxRecDepth 100000 in
theorem lc_longest {p : Program} {l : Launch} {e : Env} {s : State} {m : MethodId} {below : List Frame} {meth : Method} {c : Code} {dC : Nat → ClassId} {dI : Nat → Nat → Nat} {b L : Nat} {xs : Nat → Int32} {x0 x1 x2 x3 x4 x5 y0 y1 y2 y3 y4 y5 : Nat} {c0 c1 : ClassId} {ft : Nat → Int32} {i : Nat} (hL : L ≤ 3072) (C0 : lw_At p s m meth c b L xs) (hK : va_K (dC, dI) vwCl [(c0, .int), (c1, .int)] s) (hi : i + 6 ≤ L) (K : LK p l e s m below meth c dC dI b x0 x1 x2 x3 x4 x5 y0 y1 y2 y3 y4 y5 c0 c1 ft i 794) : LK p l e s m below meth c dC dI b x0 x1 x2 x3 x4 x5 y0 y1 y2 y3 y4 y5 c0 c1 ft i 467 := by
  intro n J rec lim fb fj fm fw fr gb gj gm gw H locs ls R hP hD hS hl
  obtain ⟨hx, hb, hr, hml, hown, hts, hX, hbl, hlocks, hgv⟩ := C0
  have hown : s.vm.findClass RL = some m.cls := hown
  have hts := fun w h => hts w (wsL_law_in w h)
  have hA : ∀ q : Nat, s.heap.size ≤ q → (fun q : Nat => s.heap.size ≤ q) q := fun _ h => h
  have hbA : ¬ (fun q : Nat => s.heap.size ≤ q) b := Nat.not_le.mpr hbl
  obtain ⟨hn, hJ, hJ1, hJ0, hBb, hM, hV, hT, hB⟩ := id R
  have hKx := hK.sub (tys' := [(c0, .int)]) [0] rfl
  have hKy := hK.sub (tys' := [(c1, .int)]) [1] rfl
  have hPx := hP.sub (ws' := wX x0 x1 x2 x3 x4 x5 c0 (nI n) rec lim fb fj fm fw fr) [0, 1, 2, 3, 4, 5] rfl
  have hPy := hP.sub (ws' := wY y0 y1 y2 y3 y4 y5 c1 (nI n) rec lim gb gj gm gw ft) [6, 7, 8, 9, 10, 11] rfl
  refine lv_aload_n hx hb dL_law_467 rfl (lv_at hl 1 rfl) ?_
  refine lv_aload_n hx hb dL_law_468 rfl (lv_at hl 0 rfl) ?_
  refine lv_iload_n hx hb dL_law_469 rfl (lv_at hl 3 rfl) ?_
  refine lv_iconst (v := 1) hx hb dL_law_470 (by decide) ?_
  refine lv_iadd hx hb dL_law_471 ?_
  refine q_top (y := nI (i + 1)) (by exact nI_add i 1) ?_
  refine va_sld hx hb hX hbl hbA hS (vp_in_nI (show i + 1 < L by omega) (by omega)) dL_law_472 ?_
  refine q_top (y := xs (i + 1)) (by rw [nI_clamp (by omega)]) ?_
  refine lv_aload_n hx hb dL_law_473 rfl (lv_at hl 0 rfl) ?_
  refine lv_iload_n hx hb dL_law_474 rfl (lv_at hl 3 rfl) ?_
  refine lv_iconst (v := 2) hx hb dL_law_475 (by decide) ?_
  refine lv_iadd hx hb dL_law_476 ?_
  refine q_top (y := nI (i + 2)) (by exact nI_add i 2) ?_
  refine va_sld hx hb hX hbl hbA hS (vp_in_nI (show i + 2 < L by omega) (by omega)) dL_law_477 ?_
  refine q_top (y := xs (i + 2)) (by rw [nI_clamp (by omega)]) ?_
  refine lv_aload_n hx hb dL_law_478 rfl (lv_at hl 0 rfl) ?_
  refine lv_iload_n hx hb dL_law_479 rfl (lv_at hl 3 rfl) ?_
  refine lv_iconst (v := 3) hx hb dL_law_480 (by decide) ?_
  refine lv_iadd hx hb dL_law_481 ?_
  refine q_top (y := nI (i + 3)) (by exact nI_add i 3) ?_
  refine va_sld hx hb hX hbl hbA hS (vp_in_nI (show i + 3 < L by omega) (by omega)) dL_law_482 ?_
  refine q_top (y := xs (i + 3)) (by rw [nI_clamp (by omega)]) ?_
  refine lv_aload_n hx hb dL_law_483 rfl (lv_at hl 0 rfl) ?_
  refine lv_iload_n hx hb dL_law_484 rfl (lv_at hl 3 rfl) ?_
  refine lv_iconst (v := 4) hx hb dL_law_485 (by decide) ?_
  refine lv_iadd hx hb dL_law_486 ?_
  refine q_top (y := nI (i + 4)) (by exact nI_add i 4) ?_
  refine va_sld hx hb hX hbl hbA hS (vp_in_nI (show i + 4 < L by omega) (by omega)) dL_law_487 ?_
  refine q_top (y := xs (i + 4)) (by rw [nI_clamp (by omega)]) ?_
  refine q_cv [.int (xs (i + 1)), .int (xs (i + 2)), .int (xs (i + 3)), .int (xs (i + 4))] (rest := []) ⟨hx, hb, hml, hown, hts⟩ (mX0_longest l dC dI x0 x1 x2 x3 x4 x5 c0 n rec lim fb fj fm fw fr (xs (i + 1)) (xs (i + 2)) (xs (i + 3)) (xs (i + 4)) hn) gL_law_X0_longest rfl rfl rfl hdX0_longest ⟨Nat.le_of_ble_eq_true rfl, Nat.le_of_ble_eq_true rfl⟩ rfl hKx hPx rfl rfl hl.1 rfl (Nat.le_of_ble_eq_true rfl) dL_law_488 ⟨Nat.le_of_ble_eq_true rfl, Nat.le_of_ble_eq_true rfl⟩ ?_
  refine lv_aload_n hx hb dL_law_491 rfl (lv_at hl 2 rfl) ?_
  refine lv_aload_n hx hb dL_law_492 rfl (lv_at hl 0 rfl) ?_
  refine lv_iload_n hx hb dL_law_493 rfl (lv_at hl 3 rfl) ?_
  refine lv_iconst (v := 1) hx hb dL_law_494 (by decide) ?_
  refine lv_iadd hx hb dL_law_495 ?_
  refine q_top (y := nI (i + 1)) (by exact nI_add i 1) ?_
  refine va_sld hx hb hX hbl hbA hS (vp_in_nI (show i + 1 < L by omega) (by omega)) dL_law_496 ?_
  refine q_top (y := xs (i + 1)) (by rw [nI_clamp (by omega)]) ?_
  refine lv_aload_n hx hb dL_law_497 rfl (lv_at hl 0 rfl) ?_
  refine lv_iload_n hx hb dL_law_498 rfl (lv_at hl 3 rfl) ?_
  refine lv_iconst (v := 2) hx hb dL_law_499 (by decide) ?_
  refine lv_iadd hx hb dL_law_500 ?_
  refine q_top (y := nI (i + 2)) (by exact nI_add i 2) ?_
  refine va_sld hx hb hX hbl hbA hS (vp_in_nI (show i + 2 < L by omega) (by omega)) dL_law_501 ?_
  refine q_top (y := xs (i + 2)) (by rw [nI_clamp (by omega)]) ?_
  refine lv_aload_n hx hb dL_law_502 rfl (lv_at hl 0 rfl) ?_
  refine lv_iload_n hx hb dL_law_503 rfl (lv_at hl 3 rfl) ?_
  refine lv_iconst (v := 3) hx hb dL_law_504 (by decide) ?_
  refine lv_iadd hx hb dL_law_505 ?_
  refine q_top (y := nI (i + 3)) (by exact nI_add i 3) ?_
  refine va_sld hx hb hX hbl hbA hS (vp_in_nI (show i + 3 < L by omega) (by omega)) dL_law_506 ?_
  refine q_top (y := xs (i + 3)) (by rw [nI_clamp (by omega)]) ?_
  refine lv_aload_n hx hb dL_law_507 rfl (lv_at hl 0 rfl) ?_
  refine lv_iload_n hx hb dL_law_508 rfl (lv_at hl 3 rfl) ?_
  refine lv_iconst (v := 4) hx hb dL_law_509 (by decide) ?_
  refine lv_iadd hx hb dL_law_510 ?_
  refine q_top (y := nI (i + 4)) (by exact nI_add i 4) ?_
  refine va_sld hx hb hX hbl hbA hS (vp_in_nI (show i + 4 < L by omega) (by omega)) dL_law_511 ?_
  refine q_top (y := xs (i + 4)) (by rw [nI_clamp (by omega)]) ?_
  refine q_cv [.int (xs (i + 1)), .int (xs (i + 2)), .int (xs (i + 3)), .int (xs (i + 4))] (rest := [.int (aLongest (mk fm) (mk fw) (nI n) (xs (i + 1)) (xs (i + 2)) (xs (i + 3)) (xs (i + 4)))]) ⟨hx, hb, hml, hown, hts⟩ (mX1_longest l dC dI y0 y1 y2 y3 y4 y5 c1 n rec lim gb gj gm gw ft (mk fm) (mk fw) (xs (i + 1)) (xs (i + 2)) (xs (i + 3)) (xs (i + 4)) hM hV hT hn) gL_law_X1_longest rfl rfl rfl hdX1_longest ⟨Nat.le_of_ble_eq_true rfl, Nat.le_of_ble_eq_true rfl⟩ rfl hKy hPy rfl rfl hl.1 rfl (Nat.le_of_ble_eq_true rfl) dL_law_512 ⟨Nat.le_of_ble_eq_true rfl, Nat.le_of_ble_eq_true rfl⟩ ?_
  refine lv_icmp_eq (tgt := 794) hx hb dL_law_515 (by decide) (fun _ => ?_) (fun c_ => absurd (rfl) c_)
  exact K n J rec lim fb fj fm fw fr gb gj gm gw H locs ls R hP hD hS hl

set_option maxHeartbeats 4000000 in
set_option maxRecDepth 100000 in
theorem lc_skip {p : Program} {l : Launch} {e : Env} {s : State} {m : MethodId} {below : List Frame} {meth : Method} {c : Code} {dC : Nat → ClassId} {dI : Nat → Nat → Nat} {b L : Nat} {xs : Nat → Int32} {x0 x1 x2 x3 x4 x5 y0 y1 y2 y3 y4 y5 : Nat} {c0 c1 : ClassId} {ft : Nat → Int32} {i : Nat} (hL : L ≤ 3072) (C0 : lw_At p s m meth c b L xs) (hK : va_K (dC, dI) vwCl [(c0, .int), (c1, .int)] s) (hi : i + 6 ≤ L) (K : LK p l e s m below meth c dC dI b x0 x1 x2 x3 x4 x5 y0 y1 y2 y3 y4 y5 c0 c1 ft i 794) : LK p l e s m below meth c dC dI b x0 x1 x2 x3 x4 x5 y0 y1 y2 y3 y4 y5 c0 c1 ft i 520 := by
  intro n J rec lim fb fj fm fw fr gb gj gm gw H locs ls R hP hD hS hl
  obtain ⟨hx, hb, hr, hml, hown, hts, hX, hbl, hlocks, hgv⟩ := C0
  have hown : s.vm.findClass RL = some m.cls := hown
  have hts := fun w h => hts w (wsL_law_in w h)
  have hA : ∀ q : Nat, s.heap.size ≤ q → (fun q : Nat => s.heap.size ≤ q) q := fun _ h => h
  have hbA : ¬ (fun q : Nat => s.heap.size ≤ q) b := Nat.not_le.mpr hbl
  obtain ⟨hn, hJ, hJ1, hJ0, hBb, hM, hV, hT, hB⟩ := id R
  have hKx := hK.sub (tys' := [(c0, .int)]) [0] rfl
  have hKy := hK.sub (tys' := [(c1, .int)]) [1] rfl
  have hPx := hP.sub (ws' := wX x0 x1 x2 x3 x4 x5 c0 (nI n) rec lim fb fj fm fw fr) [0, 1, 2, 3, 4, 5] rfl
  have hPy := hP.sub (ws' := wY y0 y1 y2 y3 y4 y5 c1 (nI n) rec lim gb gj gm gw ft) [6, 7, 8, 9, 10, 11] rfl
  refine lv_aload_n hx hb dL_law_520 rfl (lv_at hl 1 rfl) ?_
  refine lv_aload_n hx hb dL_law_521 rfl (lv_at hl 0 rfl) ?_
  refine lv_iload_n hx hb dL_law_522 rfl (lv_at hl 3 rfl) ?_
  refine lv_iconst (v := 1) hx hb dL_law_523 (by decide) ?_
  refine lv_iadd hx hb dL_law_524 ?_
  refine q_top (y := nI (i + 1)) (by exact nI_add i 1) ?_
  refine va_sld hx hb hX hbl hbA hS (vp_in_nI (show i + 1 < L by omega) (by omega)) dL_law_525 ?_
  refine q_top (y := xs (i + 1)) (by rw [nI_clamp (by omega)]) ?_
  refine lv_aload_n hx hb dL_law_526 rfl (lv_at hl 0 rfl) ?_
  refine lv_iload_n hx hb dL_law_527 rfl (lv_at hl 3 rfl) ?_
  refine lv_iconst (v := 2) hx hb dL_law_528 (by decide) ?_
  refine lv_iadd hx hb dL_law_529 ?_
  refine q_top (y := nI (i + 2)) (by exact nI_add i 2) ?_
  refine va_sld hx hb hX hbl hbA hS (vp_in_nI (show i + 2 < L by omega) (by omega)) dL_law_530 ?_
  refine q_top (y := xs (i + 2)) (by rw [nI_clamp (by omega)]) ?_
  refine lv_aload_n hx hb dL_law_531 rfl (lv_at hl 0 rfl) ?_
  refine lv_iload_n hx hb dL_law_532 rfl (lv_at hl 3 rfl) ?_
  refine lv_iconst (v := 3) hx hb dL_law_533 (by decide) ?_
  refine lv_iadd hx hb dL_law_534 ?_
  refine q_top (y := nI (i + 3)) (by exact nI_add i 3) ?_
  refine va_sld hx hb hX hbl hbA hS (vp_in_nI (show i + 3 < L by omega) (by omega)) dL_law_535 ?_
  refine q_top (y := xs (i + 3)) (by rw [nI_clamp (by omega)]) ?_
  refine lv_aload_n hx hb dL_law_536 rfl (lv_at hl 0 rfl) ?_
  refine lv_iload_n hx hb dL_law_537 rfl (lv_at hl 3 rfl) ?_
  refine lv_iconst (v := 4) hx hb dL_law_538 (by decide) ?_
  refine lv_iadd hx hb dL_law_539 ?_
  refine q_top (y := nI (i + 4)) (by exact nI_add i 4) ?_
  refine va_sld hx hb hX hbl hbA hS (vp_in_nI (show i + 4 < L by omega) (by omega)) dL_law_540 ?_
  refine q_top (y := xs (i + 4)) (by rw [nI_clamp (by omega)]) ?_
  refine lv_aload_n hx hb dL_law_541 rfl (lv_at hl 0 rfl) ?_
  refine lv_iload_n hx hb dL_law_542 rfl (lv_at hl 3 rfl) ?_
  refine lv_iconst (v := 5) hx hb dL_law_543 (by decide) ?_
  refine lv_iadd hx hb dL_law_544 ?_
  refine q_top (y := nI (i + 5)) (by exact nI_add i 5) ?_
  refine va_sld hx hb hX hbl hbA hS (vp_in_nI (show i + 5 < L by omega) (by omega)) dL_law_545 ?_
  refine q_top (y := xs (i + 5)) (by rw [nI_clamp (by omega)]) ?_
  refine q_cv [.int (xs (i + 1)), .int (xs (i + 2)), .int (xs (i + 3)), .int (xs (i + 4)), .int (xs (i + 5))] (rest := []) ⟨hx, hb, hml, hown, hts⟩ (mX0_skip l dC dI x0 x1 x2 x3 x4 x5 c0 n rec lim fb fj fm fw fr (xs (i + 1)) (xs (i + 2)) (xs (i + 3)) (xs (i + 4)) (xs (i + 5)) hn) gL_law_X0_skip rfl rfl rfl hdX0_skip ⟨Nat.le_of_ble_eq_true rfl, Nat.le_of_ble_eq_true rfl⟩ rfl hKx hPx rfl rfl hl.1 rfl (Nat.le_of_ble_eq_true rfl) dL_law_546 ⟨Nat.le_of_ble_eq_true rfl, Nat.le_of_ble_eq_true rfl⟩ ?_
  refine lv_aload_n hx hb dL_law_549 rfl (lv_at hl 2 rfl) ?_
  refine lv_aload_n hx hb dL_law_550 rfl (lv_at hl 0 rfl) ?_
  refine lv_iload_n hx hb dL_law_551 rfl (lv_at hl 3 rfl) ?_
  refine lv_iconst (v := 1) hx hb dL_law_552 (by decide) ?_
  refine lv_iadd hx hb dL_law_553 ?_
  refine q_top (y := nI (i + 1)) (by exact nI_add i 1) ?_
  refine va_sld hx hb hX hbl hbA hS (vp_in_nI (show i + 1 < L by omega) (by omega)) dL_law_554 ?_
  refine q_top (y := xs (i + 1)) (by rw [nI_clamp (by omega)]) ?_
  refine lv_aload_n hx hb dL_law_555 rfl (lv_at hl 0 rfl) ?_
  refine lv_iload_n hx hb dL_law_556 rfl (lv_at hl 3 rfl) ?_
  refine lv_iconst (v := 2) hx hb dL_law_557 (by decide) ?_
  refine lv_iadd hx hb dL_law_558 ?_
  refine q_top (y := nI (i + 2)) (by exact nI_add i 2) ?_
  refine va_sld hx hb hX hbl hbA hS (vp_in_nI (show i + 2 < L by omega) (by omega)) dL_law_559 ?_
  refine q_top (y := xs (i + 2)) (by rw [nI_clamp (by omega)]) ?_
  refine lv_aload_n hx hb dL_law_560 rfl (lv_at hl 0 rfl) ?_
  refine lv_iload_n hx hb dL_law_561 rfl (lv_at hl 3 rfl) ?_
  refine lv_iconst (v := 3) hx hb dL_law_562 (by decide) ?_
  refine lv_iadd hx hb dL_law_563 ?_
  refine q_top (y := nI (i + 3)) (by exact nI_add i 3) ?_
  refine va_sld hx hb hX hbl hbA hS (vp_in_nI (show i + 3 < L by omega) (by omega)) dL_law_564 ?_
  refine q_top (y := xs (i + 3)) (by rw [nI_clamp (by omega)]) ?_
  refine lv_aload_n hx hb dL_law_565 rfl (lv_at hl 0 rfl) ?_
  refine lv_iload_n hx hb dL_law_566 rfl (lv_at hl 3 rfl) ?_
  refine lv_iconst (v := 4) hx hb dL_law_567 (by decide) ?_
  refine lv_iadd hx hb dL_law_568 ?_
  refine q_top (y := nI (i + 4)) (by exact nI_add i 4) ?_
  refine va_sld hx hb hX hbl hbA hS (vp_in_nI (show i + 4 < L by omega) (by omega)) dL_law_569 ?_
  refine q_top (y := xs (i + 4)) (by rw [nI_clamp (by omega)]) ?_
  refine lv_aload_n hx hb dL_law_570 rfl (lv_at hl 0 rfl) ?_
  refine lv_iload_n hx hb dL_law_571 rfl (lv_at hl 3 rfl) ?_
  refine lv_iconst (v := 5) hx hb dL_law_572 (by decide) ?_
  refine lv_iadd hx hb dL_law_573 ?_
  refine q_top (y := nI (i + 5)) (by exact nI_add i 5) ?_
  refine va_sld hx hb hX hbl hbA hS (vp_in_nI (show i + 5 < L by omega) (by omega)) dL_law_574 ?_
  refine q_top (y := xs (i + 5)) (by rw [nI_clamp (by omega)]) ?_
  refine q_cv [.int (xs (i + 1)), .int (xs (i + 2)), .int (xs (i + 3)), .int (xs (i + 4)), .int (xs (i + 5))] (rest := [.int (aSkip (mk fm) (mk fw) (nI n) (xs (i + 1)) (xs (i + 2)) (xs (i + 3)) (xs (i + 4)) (xs (i + 5)))]) ⟨hx, hb, hml, hown, hts⟩ (mX1_skip l dC dI y0 y1 y2 y3 y4 y5 c1 n rec lim gb gj gm gw ft (mk fm) (mk fw) (xs (i + 1)) (xs (i + 2)) (xs (i + 3)) (xs (i + 4)) (xs (i + 5)) hM hV hT hn) gL_law_X1_skip rfl rfl rfl hdX1_skip ⟨Nat.le_of_ble_eq_true rfl, Nat.le_of_ble_eq_true rfl⟩ rfl hKy hPy rfl rfl hl.1 rfl (Nat.le_of_ble_eq_true rfl) dL_law_575 ⟨Nat.le_of_ble_eq_true rfl, Nat.le_of_ble_eq_true rfl⟩ ?_
  refine lv_icmp_eq (tgt := 794) hx hb dL_law_578 (by decide) (fun _ => ?_) (fun c_ => absurd (rfl) c_)
  exact K n J rec lim fb fj fm fw fr gb gj gm gw H locs ls R hP hD hS hl

set_option maxHeartbeats 4000000 in
set_option maxRecDepth 100000 in
theorem lc_pick {p : Program} {l : Launch} {e : Env} {s : State} {m : MethodId} {below : List Frame} {meth : Method} {c : Code} {dC : Nat → ClassId} {dI : Nat → Nat → Nat} {b L : Nat} {xs : Nat → Int32} {x0 x1 x2 x3 x4 x5 y0 y1 y2 y3 y4 y5 : Nat} {c0 c1 : ClassId} {ft : Nat → Int32} {i : Nat} (hL : L ≤ 3072) (C0 : lw_At p s m meth c b L xs) (hK : va_K (dC, dI) vwCl [(c0, .int), (c1, .int)] s) (hi : i + 6 ≤ L) (K : LK p l e s m below meth c dC dI b x0 x1 x2 x3 x4 x5 y0 y1 y2 y3 y4 y5 c0 c1 ft i 794) : LK p l e s m below meth c dC dI b x0 x1 x2 x3 x4 x5 y0 y1 y2 y3 y4 y5 c0 c1 ft i 583 := by
  intro n J rec lim fb fj fm fw fr gb gj gm gw H locs ls R hP hD hS hl
  obtain ⟨hx, hb, hr, hml, hown, hts, hX, hbl, hlocks, hgv⟩ := C0
  have hown : s.vm.findClass RL = some m.cls := hown
  have hts := fun w h => hts w (wsL_law_in w h)
  have hA : ∀ q : Nat, s.heap.size ≤ q → (fun q : Nat => s.heap.size ≤ q) q := fun _ h => h
  have hbA : ¬ (fun q : Nat => s.heap.size ≤ q) b := Nat.not_le.mpr hbl
  obtain ⟨hn, hJ, hJ1, hJ0, hBb, hM, hV, hT, hB⟩ := id R
  have hKx := hK.sub (tys' := [(c0, .int)]) [0] rfl
  have hKy := hK.sub (tys' := [(c1, .int)]) [1] rfl
  have hPx := hP.sub (ws' := wX x0 x1 x2 x3 x4 x5 c0 (nI n) rec lim fb fj fm fw fr) [0, 1, 2, 3, 4, 5] rfl
  have hPy := hP.sub (ws' := wY y0 y1 y2 y3 y4 y5 c1 (nI n) rec lim gb gj gm gw ft) [6, 7, 8, 9, 10, 11] rfl
  refine lv_aload_n hx hb dL_law_583 rfl (lv_at hl 1 rfl) ?_
  refine lv_aload_n hx hb dL_law_584 rfl (lv_at hl 0 rfl) ?_
  refine lv_iload_n hx hb dL_law_585 rfl (lv_at hl 3 rfl) ?_
  refine lv_iconst (v := 1) hx hb dL_law_586 (by decide) ?_
  refine lv_iadd hx hb dL_law_587 ?_
  refine q_top (y := nI (i + 1)) (by exact nI_add i 1) ?_
  refine va_sld hx hb hX hbl hbA hS (vp_in_nI (show i + 1 < L by omega) (by omega)) dL_law_588 ?_
  refine q_top (y := xs (i + 1)) (by rw [nI_clamp (by omega)]) ?_
  refine lv_aload_n hx hb dL_law_589 rfl (lv_at hl 0 rfl) ?_
  refine lv_iload_n hx hb dL_law_590 rfl (lv_at hl 3 rfl) ?_
  refine lv_iconst (v := 2) hx hb dL_law_591 (by decide) ?_
  refine lv_iadd hx hb dL_law_592 ?_
  refine q_top (y := nI (i + 2)) (by exact nI_add i 2) ?_
  refine va_sld hx hb hX hbl hbA hS (vp_in_nI (show i + 2 < L by omega) (by omega)) dL_law_593 ?_
  refine q_top (y := xs (i + 2)) (by rw [nI_clamp (by omega)]) ?_
  refine lv_aload_n hx hb dL_law_594 rfl (lv_at hl 0 rfl) ?_
  refine lv_iload_n hx hb dL_law_595 rfl (lv_at hl 3 rfl) ?_
  refine lv_iconst (v := 3) hx hb dL_law_596 (by decide) ?_
  refine lv_iadd hx hb dL_law_597 ?_
  refine q_top (y := nI (i + 3)) (by exact nI_add i 3) ?_
  refine va_sld hx hb hX hbl hbA hS (vp_in_nI (show i + 3 < L by omega) (by omega)) dL_law_598 ?_
  refine q_top (y := xs (i + 3)) (by rw [nI_clamp (by omega)]) ?_
  refine lv_aload_n hx hb dL_law_599 rfl (lv_at hl 0 rfl) ?_
  refine lv_iload_n hx hb dL_law_600 rfl (lv_at hl 3 rfl) ?_
  refine lv_iconst (v := 4) hx hb dL_law_601 (by decide) ?_
  refine lv_iadd hx hb dL_law_602 ?_
  refine q_top (y := nI (i + 4)) (by exact nI_add i 4) ?_
  refine va_sld hx hb hX hbl hbA hS (vp_in_nI (show i + 4 < L by omega) (by omega)) dL_law_603 ?_
  refine q_top (y := xs (i + 4)) (by rw [nI_clamp (by omega)]) ?_
  refine q_cv [.int (xs (i + 1)), .int (xs (i + 2)), .int (xs (i + 3)), .int (xs (i + 4))] (rest := []) ⟨hx, hb, hml, hown, hts⟩ (mX0_pick l dC dI x0 x1 x2 x3 x4 x5 c0 n rec lim fb fj fm fw fr (xs (i + 1)) (xs (i + 2)) (xs (i + 3)) (xs (i + 4)) hn) gL_law_X0_pick rfl rfl rfl hdX0_pick ⟨Nat.le_of_ble_eq_true rfl, Nat.le_of_ble_eq_true rfl⟩ rfl hKx hPx rfl rfl hl.1 rfl (Nat.le_of_ble_eq_true rfl) dL_law_604 ⟨Nat.le_of_ble_eq_true rfl, Nat.le_of_ble_eq_true rfl⟩ ?_
  refine lv_aload_n hx hb dL_law_607 rfl (lv_at hl 2 rfl) ?_
  refine lv_aload_n hx hb dL_law_608 rfl (lv_at hl 0 rfl) ?_
  refine lv_iload_n hx hb dL_law_609 rfl (lv_at hl 3 rfl) ?_
  refine lv_iconst (v := 1) hx hb dL_law_610 (by decide) ?_
  refine lv_iadd hx hb dL_law_611 ?_
  refine q_top (y := nI (i + 1)) (by exact nI_add i 1) ?_
  refine va_sld hx hb hX hbl hbA hS (vp_in_nI (show i + 1 < L by omega) (by omega)) dL_law_612 ?_
  refine q_top (y := xs (i + 1)) (by rw [nI_clamp (by omega)]) ?_
  refine lv_aload_n hx hb dL_law_613 rfl (lv_at hl 0 rfl) ?_
  refine lv_iload_n hx hb dL_law_614 rfl (lv_at hl 3 rfl) ?_
  refine lv_iconst (v := 2) hx hb dL_law_615 (by decide) ?_
  refine lv_iadd hx hb dL_law_616 ?_
  refine q_top (y := nI (i + 2)) (by exact nI_add i 2) ?_
  refine va_sld hx hb hX hbl hbA hS (vp_in_nI (show i + 2 < L by omega) (by omega)) dL_law_617 ?_
  refine q_top (y := xs (i + 2)) (by rw [nI_clamp (by omega)]) ?_
  refine lv_aload_n hx hb dL_law_618 rfl (lv_at hl 0 rfl) ?_
  refine lv_iload_n hx hb dL_law_619 rfl (lv_at hl 3 rfl) ?_
  refine lv_iconst (v := 3) hx hb dL_law_620 (by decide) ?_
  refine lv_iadd hx hb dL_law_621 ?_
  refine q_top (y := nI (i + 3)) (by exact nI_add i 3) ?_
  refine va_sld hx hb hX hbl hbA hS (vp_in_nI (show i + 3 < L by omega) (by omega)) dL_law_622 ?_
  refine q_top (y := xs (i + 3)) (by rw [nI_clamp (by omega)]) ?_
  refine lv_aload_n hx hb dL_law_623 rfl (lv_at hl 0 rfl) ?_
  refine lv_iload_n hx hb dL_law_624 rfl (lv_at hl 3 rfl) ?_
  refine lv_iconst (v := 4) hx hb dL_law_625 (by decide) ?_
  refine lv_iadd hx hb dL_law_626 ?_
  refine q_top (y := nI (i + 4)) (by exact nI_add i 4) ?_
  refine va_sld hx hb hX hbl hbA hS (vp_in_nI (show i + 4 < L by omega) (by omega)) dL_law_627 ?_
  refine q_top (y := xs (i + 4)) (by rw [nI_clamp (by omega)]) ?_
  refine q_cv [.int (xs (i + 1)), .int (xs (i + 2)), .int (xs (i + 3)), .int (xs (i + 4))] (rest := [.int (aPick (mk fm) (mk fw) (nI n) (xs (i + 1)) (xs (i + 2)) (xs (i + 3)) (xs (i + 4)))]) ⟨hx, hb, hml, hown, hts⟩ (mX1_pick l dC dI y0 y1 y2 y3 y4 y5 c1 n rec lim gb gj gm gw ft (mk fm) (mk fw) (xs (i + 1)) (xs (i + 2)) (xs (i + 3)) (xs (i + 4)) hM hV hT hn) gL_law_X1_pick rfl rfl rfl hdX1_pick ⟨Nat.le_of_ble_eq_true rfl, Nat.le_of_ble_eq_true rfl⟩ rfl hKy hPy rfl rfl hl.1 rfl (Nat.le_of_ble_eq_true rfl) dL_law_628 ⟨Nat.le_of_ble_eq_true rfl, Nat.le_of_ble_eq_true rfl⟩ ?_
  refine lv_icmp_eq (tgt := 794) hx hb dL_law_631 (by decide) (fun _ => ?_) (fun c_ => absurd (rfl) c_)
  exact K n J rec lim fb fj fm fw fr gb gj gm gw H locs ls R hP hD hS hl

set_option maxHeartbeats 4000000 in
set_option maxRecDepth 100000 in
theorem lc_best {p : Program} {l : Launch} {e : Env} {s : State} {m : MethodId} {below : List Frame} {meth : Method} {c : Code} {dC : Nat → ClassId} {dI : Nat → Nat → Nat} {b L : Nat} {xs : Nat → Int32} {x0 x1 x2 x3 x4 x5 y0 y1 y2 y3 y4 y5 : Nat} {c0 c1 : ClassId} {ft : Nat → Int32} {i : Nat} (hL : L ≤ 3072) (C0 : lw_At p s m meth c b L xs) (hK : va_K (dC, dI) vwCl [(c0, .int), (c1, .int)] s) (hi : i + 6 ≤ L) (K : LK p l e s m below meth c dC dI b x0 x1 x2 x3 x4 x5 y0 y1 y2 y3 y4 y5 c0 c1 ft i 794) : LK p l e s m below meth c dC dI b x0 x1 x2 x3 x4 x5 y0 y1 y2 y3 y4 y5 c0 c1 ft i 636 := by
  intro n J rec lim fb fj fm fw fr gb gj gm gw H locs ls R hP hD hS hl
  obtain ⟨hx, hb, hr, hml, hown, hts, hX, hbl, hlocks, hgv⟩ := C0
  have hown : s.vm.findClass RL = some m.cls := hown
  have hts := fun w h => hts w (wsL_law_in w h)
  have hA : ∀ q : Nat, s.heap.size ≤ q → (fun q : Nat => s.heap.size ≤ q) q := fun _ h => h
  have hbA : ¬ (fun q : Nat => s.heap.size ≤ q) b := Nat.not_le.mpr hbl
  obtain ⟨hn, hJ, hJ1, hJ0, hBb, hM, hV, hT, hB⟩ := id R
  have hKx := hK.sub (tys' := [(c0, .int)]) [0] rfl
  have hKy := hK.sub (tys' := [(c1, .int)]) [1] rfl
  have hPx := hP.sub (ws' := wX x0 x1 x2 x3 x4 x5 c0 (nI n) rec lim fb fj fm fw fr) [0, 1, 2, 3, 4, 5] rfl
  have hPy := hP.sub (ws' := wY y0 y1 y2 y3 y4 y5 c1 (nI n) rec lim gb gj gm gw ft) [6, 7, 8, 9, 10, 11] rfl
  refine lv_aload_n hx hb dL_law_636 rfl (lv_at hl 1 rfl) ?_
  refine lv_aload_n hx hb dL_law_637 rfl (lv_at hl 0 rfl) ?_
  refine lv_iload_n hx hb dL_law_638 rfl (lv_at hl 3 rfl) ?_
  refine lv_iconst (v := 1) hx hb dL_law_639 (by decide) ?_
  refine lv_iadd hx hb dL_law_640 ?_
  refine q_top (y := nI (i + 1)) (by exact nI_add i 1) ?_
  refine va_sld hx hb hX hbl hbA hS (vp_in_nI (show i + 1 < L by omega) (by omega)) dL_law_641 ?_
  refine q_top (y := xs (i + 1)) (by rw [nI_clamp (by omega)]) ?_
  refine q_cv [.int (xs (i + 1))] (rest := []) ⟨hx, hb, hml, hown, hts⟩ (mX0_best l dC dI x0 x1 x2 x3 x4 x5 c0 n rec lim fb fj fm fw fr (xs (i + 1)) hn) gL_law_X0_best rfl rfl rfl hdX0_best ⟨Nat.le_of_ble_eq_true rfl, Nat.le_of_ble_eq_true rfl⟩ rfl hKx hPx rfl rfl hl.1 rfl (Nat.le_of_ble_eq_true rfl) dL_law_642 ⟨Nat.le_of_ble_eq_true rfl, Nat.le_of_ble_eq_true rfl⟩ ?_
  refine lv_aload_n hx hb dL_law_645 rfl (lv_at hl 2 rfl) ?_
  refine lv_aload_n hx hb dL_law_646 rfl (lv_at hl 0 rfl) ?_
  refine lv_iload_n hx hb dL_law_647 rfl (lv_at hl 3 rfl) ?_
  refine lv_iconst (v := 1) hx hb dL_law_648 (by decide) ?_
  refine lv_iadd hx hb dL_law_649 ?_
  refine q_top (y := nI (i + 1)) (by exact nI_add i 1) ?_
  refine va_sld hx hb hX hbl hbA hS (vp_in_nI (show i + 1 < L by omega) (by omega)) dL_law_650 ?_
  refine q_top (y := xs (i + 1)) (by rw [nI_clamp (by omega)]) ?_
  refine q_cv [.int (xs (i + 1))] (rest := [.int (aBest (mk fm) (mk fw) lim (nI n) (xs (i + 1)))]) ⟨hx, hb, hml, hown, hts⟩ (mX1_best l dC dI y0 y1 y2 y3 y4 y5 c1 n rec lim gb gj gm gw ft (mk fm) (mk fw) (xs (i + 1)) hM hV hT hn hB) gL_law_X1_best rfl rfl rfl hdX1_best ⟨Nat.le_of_ble_eq_true rfl, Nat.le_of_ble_eq_true rfl⟩ rfl hKy hPy rfl rfl hl.1 rfl (Nat.le_of_ble_eq_true rfl) dL_law_651 ⟨Nat.le_of_ble_eq_true rfl, Nat.le_of_ble_eq_true rfl⟩ ?_
  refine lv_icmp_eq (tgt := 794) hx hb dL_law_654 (by decide) (fun _ => ?_) (fun c_ => absurd (rfl) c_)
  exact K n J rec lim fb fj fm fw fr gb gj gm gw H locs ls R hP hD hS hl

set_option maxHeartbeats 4000000 in
set_option maxRecDepth 100000 in
theorem lc_ahead {p : Program} {l : Launch} {e : Env} {s : State} {m : MethodId} {below : List Frame} {meth : Method} {c : Code} {dC : Nat → ClassId} {dI : Nat → Nat → Nat} {b L : Nat} {xs : Nat → Int32} {x0 x1 x2 x3 x4 x5 y0 y1 y2 y3 y4 y5 : Nat} {c0 c1 : ClassId} {ft : Nat → Int32} {i : Nat} (hL : L ≤ 3072) (C0 : lw_At p s m meth c b L xs) (hK : va_K (dC, dI) vwCl [(c0, .int), (c1, .int)] s) (hi : i + 6 ≤ L) (K : LK p l e s m below meth c dC dI b x0 x1 x2 x3 x4 x5 y0 y1 y2 y3 y4 y5 c0 c1 ft i 794) : LK p l e s m below meth c dC dI b x0 x1 x2 x3 x4 x5 y0 y1 y2 y3 y4 y5 c0 c1 ft i 659 := by
  intro n J rec lim fb fj fm fw fr gb gj gm gw H locs ls R hP hD hS hl
  obtain ⟨hx, hb, hr, hml, hown, hts, hX, hbl, hlocks, hgv⟩ := C0
  have hown : s.vm.findClass RL = some m.cls := hown
  have hts := fun w h => hts w (wsL_law_in w h)
  have hA : ∀ q : Nat, s.heap.size ≤ q → (fun q : Nat => s.heap.size ≤ q) q := fun _ h => h
  have hbA : ¬ (fun q : Nat => s.heap.size ≤ q) b := Nat.not_le.mpr hbl
  obtain ⟨hn, hJ, hJ1, hJ0, hBb, hM, hV, hT, hB⟩ := id R
  have hKx := hK.sub (tys' := [(c0, .int)]) [0] rfl
  have hKy := hK.sub (tys' := [(c1, .int)]) [1] rfl
  have hPx := hP.sub (ws' := wX x0 x1 x2 x3 x4 x5 c0 (nI n) rec lim fb fj fm fw fr) [0, 1, 2, 3, 4, 5] rfl
  have hPy := hP.sub (ws' := wY y0 y1 y2 y3 y4 y5 c1 (nI n) rec lim gb gj gm gw ft) [6, 7, 8, 9, 10, 11] rfl
  refine lv_aload_n hx hb dL_law_659 rfl (lv_at hl 1 rfl) ?_
  refine lv_aload_n hx hb dL_law_660 rfl (lv_at hl 0 rfl) ?_
  refine lv_iload_n hx hb dL_law_661 rfl (lv_at hl 3 rfl) ?_
  refine lv_iconst (v := 1) hx hb dL_law_662 (by decide) ?_
  refine lv_iadd hx hb dL_law_663 ?_
  refine q_top (y := nI (i + 1)) (by exact nI_add i 1) ?_
  refine va_sld hx hb hX hbl hbA hS (vp_in_nI (show i + 1 < L by omega) (by omega)) dL_law_664 ?_
  refine q_top (y := xs (i + 1)) (by rw [nI_clamp (by omega)]) ?_
  refine lv_aload_n hx hb dL_law_665 rfl (lv_at hl 0 rfl) ?_
  refine lv_iload_n hx hb dL_law_666 rfl (lv_at hl 3 rfl) ?_
  refine lv_iconst (v := 2) hx hb dL_law_667 (by decide) ?_
  refine lv_iadd hx hb dL_law_668 ?_
  refine q_top (y := nI (i + 2)) (by exact nI_add i 2) ?_
  refine va_sld hx hb hX hbl hbA hS (vp_in_nI (show i + 2 < L by omega) (by omega)) dL_law_669 ?_
  refine q_top (y := xs (i + 2)) (by rw [nI_clamp (by omega)]) ?_
  have hDx := hD.sub (ws' := wX x0 x1 x2 x3 x4 x5 c0 (nI n) rec lim fb fj fm fw fr) [0, 1, 2, 3, 4, 5] (by decide) rfl
  refine q_cwj (wY y0 y1 y2 y3 y4 y5 c1 (nI n) rec lim gb gj gm gw ft) [.int (xs (i + 1)), .int (xs (i + 2))] (rest := []) ⟨hx, hb, hml, hown, hts⟩ (mX0_ahead l dC dI x0 x1 x2 x3 x4 x5 c0 n rec lim fb fj fm fw fr _ (xs (i + 1)) (xs (i + 2)) hn) gL_law_X0_ahead rfl rfl rfl hdX0_ahead ⟨Nat.le_of_ble_eq_true rfl, Nat.le_of_ble_eq_true rfl⟩ rfl hKx hP hD hS hA [0, 1, 2, 3, 4, 5] [6, 7, 8, 9, 10, 11] hPx hDx rfl rfl (by decide) (by decide) rfl rfl hl.1 rfl (Nat.le_of_ble_eq_true rfl) dL_law_670 ⟨Nat.le_of_ble_eq_true rfl, Nat.le_of_ble_eq_true rfl⟩ (fun r u H locs hu hP hD hS => ?_)
  have hP := hP.sub (ws' := wX x0 x1 x2 x3 x4 x5 c0 (nI n) rec lim fb fj fm fw u ++ wY y0 y1 y2 y3 y4 y5 c1 (nI n) rec lim gb gj gm gw ft) [6, 7, 8, 9, 10, 11, 0, 1, 2, 3, 4, 5] rfl
  have hD := hD.sub (ws' := wX x0 x1 x2 x3 x4 x5 c0 (nI n) rec lim fb fj fm fw u ++ wY y0 y1 y2 y3 y4 y5 c1 (nI n) rec lim gb gj gm gw ft) [6, 7, 8, 9, 10, 11, 0, 1, 2, 3, 4, 5] (by decide) rfl
  have hPy := hP.sub (ws' := wY y0 y1 y2 y3 y4 y5 c1 (nI n) rec lim gb gj gm gw ft) [6, 7, 8, 9, 10, 11] rfl
  refine lv_aload_n hx hb dL_law_673 rfl (lv_at hl 2 rfl) ?_
  refine lv_aload_n hx hb dL_law_674 rfl (lv_at hl 0 rfl) ?_
  refine lv_iload_n hx hb dL_law_675 rfl (lv_at hl 3 rfl) ?_
  refine lv_iconst (v := 1) hx hb dL_law_676 (by decide) ?_
  refine lv_iadd hx hb dL_law_677 ?_
  refine q_top (y := nI (i + 1)) (by exact nI_add i 1) ?_
  refine va_sld hx hb hX hbl hbA hS (vp_in_nI (show i + 1 < L by omega) (by omega)) dL_law_678 ?_
  refine q_top (y := xs (i + 1)) (by rw [nI_clamp (by omega)]) ?_
  refine lv_aload_n hx hb dL_law_679 rfl (lv_at hl 0 rfl) ?_
  refine lv_iload_n hx hb dL_law_680 rfl (lv_at hl 3 rfl) ?_
  refine lv_iconst (v := 2) hx hb dL_law_681 (by decide) ?_
  refine lv_iadd hx hb dL_law_682 ?_
  refine q_top (y := nI (i + 2)) (by exact nI_add i 2) ?_
  refine va_sld hx hb hX hbl hbA hS (vp_in_nI (show i + 2 < L by omega) (by omega)) dL_law_683 ?_
  refine q_top (y := xs (i + 2)) (by rw [nI_clamp (by omega)]) ?_
  refine q_cv [.int (xs (i + 1)), .int (xs (i + 2))] (rest := [.int r]) ⟨hx, hb, hml, hown, hts⟩ (mX1_ahead l dC dI y0 y1 y2 y3 y4 y5 c1 n rec lim gb gj gm gw ft (mk fm) (mk fw) (xs (i + 1)) (xs (i + 2)) hM hV hT hn hB) gL_law_X1_ahead rfl rfl rfl hdX1_ahead ⟨Nat.le_of_ble_eq_true rfl, Nat.le_of_ble_eq_true rfl⟩ rfl hKy hPy rfl rfl hl.1 rfl (Nat.le_of_ble_eq_true rfl) dL_law_684 ⟨Nat.le_of_ble_eq_true rfl, Nat.le_of_ble_eq_true rfl⟩ ?_
  refine lv_icmp_eq (tgt := 794) hx hb dL_law_687 (by decide) (fun _ => ?_) (fun c_ => absurd (hu) c_)
  exact K n J rec lim fb fj fm fw u gb gj gm gw H locs ls R hP hD hS hl

set_option maxHeartbeats 4000000 in
set_option maxRecDepth 100000 in
theorem lc_place {p : Program} {l : Launch} {e : Env} {s : State} {m : MethodId} {below : List Frame} {meth : Method} {c : Code} {dC : Nat → ClassId} {dI : Nat → Nat → Nat} {b L : Nat} {xs : Nat → Int32} {x0 x1 x2 x3 x4 x5 y0 y1 y2 y3 y4 y5 : Nat} {c0 c1 : ClassId} {ft : Nat → Int32} {i : Nat} (hL : L ≤ 3072) (C0 : lw_At p s m meth c b L xs) (hK : va_K (dC, dI) vwCl [(c0, .int), (c1, .int)] s) (hi : i + 6 ≤ L) (K : LK p l e s m below meth c dC dI b x0 x1 x2 x3 x4 x5 y0 y1 y2 y3 y4 y5 c0 c1 ft i 794) : LK p l e s m below meth c dC dI b x0 x1 x2 x3 x4 x5 y0 y1 y2 y3 y4 y5 c0 c1 ft i 692 := by
  intro n J rec lim fb fj fm fw fr gb gj gm gw H locs ls R hP hD hS hl
  obtain ⟨hx, hb, hr, hml, hown, hts, hX, hbl, hlocks, hgv⟩ := C0
  have hown : s.vm.findClass RL = some m.cls := hown
  have hts := fun w h => hts w (wsL_law_in w h)
  have hA : ∀ q : Nat, s.heap.size ≤ q → (fun q : Nat => s.heap.size ≤ q) q := fun _ h => h
  have hbA : ¬ (fun q : Nat => s.heap.size ≤ q) b := Nat.not_le.mpr hbl
  obtain ⟨hn, hJ, hJ1, hJ0, hBb, hM, hV, hT, hB⟩ := id R
  have hKx := hK.sub (tys' := [(c0, .int)]) [0] rfl
  have hKy := hK.sub (tys' := [(c1, .int)]) [1] rfl
  have hPx := hP.sub (ws' := wX x0 x1 x2 x3 x4 x5 c0 (nI n) rec lim fb fj fm fw fr) [0, 1, 2, 3, 4, 5] rfl
  have hPy := hP.sub (ws' := wY y0 y1 y2 y3 y4 y5 c1 (nI n) rec lim gb gj gm gw ft) [6, 7, 8, 9, 10, 11] rfl
  refine lv_aload_n hx hb dL_law_692 rfl (lv_at hl 1 rfl) ?_
  refine lv_aload_n hx hb dL_law_693 rfl (lv_at hl 0 rfl) ?_
  refine lv_iload_n hx hb dL_law_694 rfl (lv_at hl 3 rfl) ?_
  refine lv_iconst (v := 1) hx hb dL_law_695 (by decide) ?_
  refine lv_iadd hx hb dL_law_696 ?_
  refine q_top (y := nI (i + 1)) (by exact nI_add i 1) ?_
  refine va_sld hx hb hX hbl hbA hS (vp_in_nI (show i + 1 < L by omega) (by omega)) dL_law_697 ?_
  refine q_top (y := xs (i + 1)) (by rw [nI_clamp (by omega)]) ?_
  have hDx := hD.sub (ws' := wX x0 x1 x2 x3 x4 x5 c0 (nI n) rec lim fb fj fm fw fr) [0, 1, 2, 3, 4, 5] (by decide) rfl
  refine q_cwj (wY y0 y1 y2 y3 y4 y5 c1 (nI n) rec lim gb gj gm gw ft) [.int (xs (i + 1))] (rest := []) ⟨hx, hb, hml, hown, hts⟩ (mX0_place l dC dI x0 x1 x2 x3 x4 x5 c0 n rec lim fb fj fm fw fr _ (xs (i + 1)) hn) gL_law_X0_place rfl rfl rfl hdX0_place ⟨Nat.le_of_ble_eq_true rfl, Nat.le_of_ble_eq_true rfl⟩ rfl hKx hP hD hS hA [0, 1, 2, 3, 4, 5] [6, 7, 8, 9, 10, 11] hPx hDx rfl rfl (by decide) (by decide) rfl rfl hl.1 rfl (Nat.le_of_ble_eq_true rfl) dL_law_698 ⟨Nat.le_of_ble_eq_true rfl, Nat.le_of_ble_eq_true rfl⟩ (fun r u H locs hu hP hD hS => ?_)
  have hP := hP.sub (ws' := wX x0 x1 x2 x3 x4 x5 c0 (nI n) rec lim fb fj fm fw u ++ wY y0 y1 y2 y3 y4 y5 c1 (nI n) rec lim gb gj gm gw ft) [6, 7, 8, 9, 10, 11, 0, 1, 2, 3, 4, 5] rfl
  have hD := hD.sub (ws' := wX x0 x1 x2 x3 x4 x5 c0 (nI n) rec lim fb fj fm fw u ++ wY y0 y1 y2 y3 y4 y5 c1 (nI n) rec lim gb gj gm gw ft) [6, 7, 8, 9, 10, 11, 0, 1, 2, 3, 4, 5] (by decide) rfl
  have hPy := hP.sub (ws' := wY y0 y1 y2 y3 y4 y5 c1 (nI n) rec lim gb gj gm gw ft) [6, 7, 8, 9, 10, 11] rfl
  refine lv_aload_n hx hb dL_law_701 rfl (lv_at hl 2 rfl) ?_
  refine lv_aload_n hx hb dL_law_702 rfl (lv_at hl 0 rfl) ?_
  refine lv_iload_n hx hb dL_law_703 rfl (lv_at hl 3 rfl) ?_
  refine lv_iconst (v := 1) hx hb dL_law_704 (by decide) ?_
  refine lv_iadd hx hb dL_law_705 ?_
  refine q_top (y := nI (i + 1)) (by exact nI_add i 1) ?_
  refine va_sld hx hb hX hbl hbA hS (vp_in_nI (show i + 1 < L by omega) (by omega)) dL_law_706 ?_
  refine q_top (y := xs (i + 1)) (by rw [nI_clamp (by omega)]) ?_
  refine q_cv [.int (xs (i + 1))] (rest := [.int r]) ⟨hx, hb, hml, hown, hts⟩ (mX1_place l dC dI y0 y1 y2 y3 y4 y5 c1 n rec lim gb gj gm gw ft (mk fm) (mk fw) (xs (i + 1)) hM hV hT hn hB) gL_law_X1_place rfl rfl rfl hdX1_place ⟨Nat.le_of_ble_eq_true rfl, Nat.le_of_ble_eq_true rfl⟩ rfl hKy hPy rfl rfl hl.1 rfl (Nat.le_of_ble_eq_true rfl) dL_law_707 ⟨Nat.le_of_ble_eq_true rfl, Nat.le_of_ble_eq_true rfl⟩ ?_
  refine lv_icmp_eq (tgt := 794) hx hb dL_law_710 (by decide) (fun _ => ?_) (fun c_ => absurd (hu) c_)
  exact K n J rec lim fb fj fm fw u gb gj gm gw H locs ls R hP hD hS hl

set_option maxHeartbeats 4000000 in
set_option maxRecDepth 100000 in
theorem lc_order {p : Program} {l : Launch} {e : Env} {s : State} {m : MethodId} {below : List Frame} {meth : Method} {c : Code} {dC : Nat → ClassId} {dI : Nat → Nat → Nat} {b L : Nat} {xs : Nat → Int32} {x0 x1 x2 x3 x4 x5 y0 y1 y2 y3 y4 y5 : Nat} {c0 c1 : ClassId} {ft : Nat → Int32} {i : Nat} (hL : L ≤ 3072) (C0 : lw_At p s m meth c b L xs) (hK : va_K (dC, dI) vwCl [(c0, .int), (c1, .int)] s) (hi : i + 6 ≤ L) (K : LK p l e s m below meth c dC dI b x0 x1 x2 x3 x4 x5 y0 y1 y2 y3 y4 y5 c0 c1 ft i 794) : LK p l e s m below meth c dC dI b x0 x1 x2 x3 x4 x5 y0 y1 y2 y3 y4 y5 c0 c1 ft i 715 := by
  intro n J rec lim fb fj fm fw fr gb gj gm gw H locs ls R hP hD hS hl
  obtain ⟨hx, hb, hr, hml, hown, hts, hX, hbl, hlocks, hgv⟩ := C0
  have hown : s.vm.findClass RL = some m.cls := hown
  have hts := fun w h => hts w (wsL_law_in w h)
  have hA : ∀ q : Nat, s.heap.size ≤ q → (fun q : Nat => s.heap.size ≤ q) q := fun _ h => h
  have hbA : ¬ (fun q : Nat => s.heap.size ≤ q) b := Nat.not_le.mpr hbl
  obtain ⟨hn, hJ, hJ1, hJ0, hBb, hM, hV, hT, hB⟩ := id R
  have hKx := hK.sub (tys' := [(c0, .int)]) [0] rfl
  have hKy := hK.sub (tys' := [(c1, .int)]) [1] rfl
  have hPx := hP.sub (ws' := wX x0 x1 x2 x3 x4 x5 c0 (nI n) rec lim fb fj fm fw fr) [0, 1, 2, 3, 4, 5] rfl
  have hPy := hP.sub (ws' := wY y0 y1 y2 y3 y4 y5 c1 (nI n) rec lim gb gj gm gw ft) [6, 7, 8, 9, 10, 11] rfl
  refine lv_aload_n hx hb dL_law_715 rfl (lv_at hl 1 rfl) ?_
  refine lv_aload_n hx hb dL_law_716 rfl (lv_at hl 0 rfl) ?_
  refine lv_iload_n hx hb dL_law_717 rfl (lv_at hl 3 rfl) ?_
  refine lv_iconst (v := 1) hx hb dL_law_718 (by decide) ?_
  refine lv_iadd hx hb dL_law_719 ?_
  refine q_top (y := nI (i + 1)) (by exact nI_add i 1) ?_
  refine va_sld hx hb hX hbl hbA hS (vp_in_nI (show i + 1 < L by omega) (by omega)) dL_law_720 ?_
  refine q_top (y := xs (i + 1)) (by rw [nI_clamp (by omega)]) ?_
  have hDx := hD.sub (ws' := wX x0 x1 x2 x3 x4 x5 c0 (nI n) rec lim fb fj fm fw fr) [0, 1, 2, 3, 4, 5] (by decide) rfl
  refine q_cwj (wY y0 y1 y2 y3 y4 y5 c1 (nI n) rec lim gb gj gm gw ft) [.int (xs (i + 1))] (rest := []) ⟨hx, hb, hml, hown, hts⟩ (mX0_order l dC dI x0 x1 x2 x3 x4 x5 c0 n rec lim fb fj fm fw fr _ (xs (i + 1)) hn) gL_law_X0_order rfl rfl rfl hdX0_order ⟨Nat.le_of_ble_eq_true rfl, Nat.le_of_ble_eq_true rfl⟩ rfl hKx hP hD hS hA [0, 1, 2, 3, 4, 5] [6, 7, 8, 9, 10, 11] hPx hDx rfl rfl (by decide) (by decide) rfl rfl hl.1 rfl (Nat.le_of_ble_eq_true rfl) dL_law_721 ⟨Nat.le_of_ble_eq_true rfl, Nat.le_of_ble_eq_true rfl⟩ (fun r u H locs hu hP hD hS => ?_)
  have hP := hP.sub (ws' := wX x0 x1 x2 x3 x4 x5 c0 (nI n) rec lim fb fj fm fw u ++ wY y0 y1 y2 y3 y4 y5 c1 (nI n) rec lim gb gj gm gw ft) [6, 7, 8, 9, 10, 11, 0, 1, 2, 3, 4, 5] rfl
  have hD := hD.sub (ws' := wX x0 x1 x2 x3 x4 x5 c0 (nI n) rec lim fb fj fm fw u ++ wY y0 y1 y2 y3 y4 y5 c1 (nI n) rec lim gb gj gm gw ft) [6, 7, 8, 9, 10, 11, 0, 1, 2, 3, 4, 5] (by decide) rfl
  have hPy := hP.sub (ws' := wY y0 y1 y2 y3 y4 y5 c1 (nI n) rec lim gb gj gm gw ft) [6, 7, 8, 9, 10, 11] rfl
  refine lv_aload_n hx hb dL_law_724 rfl (lv_at hl 2 rfl) ?_
  refine lv_aload_n hx hb dL_law_725 rfl (lv_at hl 0 rfl) ?_
  refine lv_iload_n hx hb dL_law_726 rfl (lv_at hl 3 rfl) ?_
  refine lv_iconst (v := 1) hx hb dL_law_727 (by decide) ?_
  refine lv_iadd hx hb dL_law_728 ?_
  refine q_top (y := nI (i + 1)) (by exact nI_add i 1) ?_
  refine va_sld hx hb hX hbl hbA hS (vp_in_nI (show i + 1 < L by omega) (by omega)) dL_law_729 ?_
  refine q_top (y := xs (i + 1)) (by rw [nI_clamp (by omega)]) ?_
  refine q_cv [.int (xs (i + 1))] (rest := [.int r]) ⟨hx, hb, hml, hown, hts⟩ (mX1_order l dC dI y0 y1 y2 y3 y4 y5 c1 n rec lim gb gj gm gw ft (mk fm) (mk fw) (xs (i + 1)) hM hV hT hn hB) gL_law_X1_order rfl rfl rfl hdX1_order ⟨Nat.le_of_ble_eq_true rfl, Nat.le_of_ble_eq_true rfl⟩ rfl hKy hPy rfl rfl hl.1 rfl (Nat.le_of_ble_eq_true rfl) dL_law_730 ⟨Nat.le_of_ble_eq_true rfl, Nat.le_of_ble_eq_true rfl⟩ ?_
  refine lv_icmp_eq (tgt := 794) hx hb dL_law_733 (by decide) (fun _ => ?_) (fun c_ => absurd (hu.trans (aOrder_eq hB hn 0 (-1000) _)) c_)
  exact K n J rec lim fb fj fm fw u gb gj gm gw H locs ls R hP hD hS hl

set_option maxHeartbeats 4000000 in
set_option maxRecDepth 100000 in
theorem lc_verdict {p : Program} {l : Launch} {e : Env} {s : State} {m : MethodId} {below : List Frame} {meth : Method} {c : Code} {dC : Nat → ClassId} {dI : Nat → Nat → Nat} {b L : Nat} {xs : Nat → Int32} {x0 x1 x2 x3 x4 x5 y0 y1 y2 y3 y4 y5 : Nat} {c0 c1 : ClassId} {ft : Nat → Int32} {i : Nat} (hL : L ≤ 3072) (C0 : lw_At p s m meth c b L xs) (hK : va_K (dC, dI) vwCl [(c0, .int), (c1, .int)] s) (hi : i + 6 ≤ L) (K : LK p l e s m below meth c dC dI b x0 x1 x2 x3 x4 x5 y0 y1 y2 y3 y4 y5 c0 c1 ft i 794) : LK p l e s m below meth c dC dI b x0 x1 x2 x3 x4 x5 y0 y1 y2 y3 y4 y5 c0 c1 ft i 738 := by
  intro n J rec lim fb fj fm fw fr gb gj gm gw H locs ls R hP hD hS hl
  obtain ⟨hx, hb, hr, hml, hown, hts, hX, hbl, hlocks, hgv⟩ := C0
  have hown : s.vm.findClass RL = some m.cls := hown
  have hts := fun w h => hts w (wsL_law_in w h)
  have hA : ∀ q : Nat, s.heap.size ≤ q → (fun q : Nat => s.heap.size ≤ q) q := fun _ h => h
  have hbA : ¬ (fun q : Nat => s.heap.size ≤ q) b := Nat.not_le.mpr hbl
  obtain ⟨hn, hJ, hJ1, hJ0, hBb, hM, hV, hT, hB⟩ := id R
  have hKx := hK.sub (tys' := [(c0, .int)]) [0] rfl
  have hKy := hK.sub (tys' := [(c1, .int)]) [1] rfl
  have hPx := hP.sub (ws' := wX x0 x1 x2 x3 x4 x5 c0 (nI n) rec lim fb fj fm fw fr) [0, 1, 2, 3, 4, 5] rfl
  have hPy := hP.sub (ws' := wY y0 y1 y2 y3 y4 y5 c1 (nI n) rec lim gb gj gm gw ft) [6, 7, 8, 9, 10, 11] rfl
  refine lv_aload_n hx hb dL_law_738 rfl (lv_at hl 1 rfl) ?_
  refine lv_aload_n hx hb dL_law_739 rfl (lv_at hl 0 rfl) ?_
  refine lv_iload_n hx hb dL_law_740 rfl (lv_at hl 3 rfl) ?_
  refine lv_iconst (v := 1) hx hb dL_law_741 (by decide) ?_
  refine lv_iadd hx hb dL_law_742 ?_
  refine q_top (y := nI (i + 1)) (by exact nI_add i 1) ?_
  refine va_sld hx hb hX hbl hbA hS (vp_in_nI (show i + 1 < L by omega) (by omega)) dL_law_743 ?_
  refine q_top (y := xs (i + 1)) (by rw [nI_clamp (by omega)]) ?_
  refine lv_aload_n hx hb dL_law_744 rfl (lv_at hl 0 rfl) ?_
  refine lv_iload_n hx hb dL_law_745 rfl (lv_at hl 3 rfl) ?_
  refine lv_iconst (v := 2) hx hb dL_law_746 (by decide) ?_
  refine lv_iadd hx hb dL_law_747 ?_
  refine q_top (y := nI (i + 2)) (by exact nI_add i 2) ?_
  refine va_sld hx hb hX hbl hbA hS (vp_in_nI (show i + 2 < L by omega) (by omega)) dL_law_748 ?_
  refine q_top (y := xs (i + 2)) (by rw [nI_clamp (by omega)]) ?_
  refine q_cv [.int (xs (i + 1)), .int (xs (i + 2))] (rest := []) ⟨hx, hb, hml, hown, hts⟩ (mX0_verdict l dC dI x0 x1 x2 x3 x4 x5 c0 n rec lim fb fj fm fw fr (xs (i + 1)) (xs (i + 2)) hn) gL_law_X0_verdict rfl rfl rfl hdX0_verdict ⟨Nat.le_of_ble_eq_true rfl, Nat.le_of_ble_eq_true rfl⟩ rfl hKx hPx rfl rfl hl.1 rfl (Nat.le_of_ble_eq_true rfl) dL_law_749 ⟨Nat.le_of_ble_eq_true rfl, Nat.le_of_ble_eq_true rfl⟩ ?_
  refine lv_aload_n hx hb dL_law_752 rfl (lv_at hl 2 rfl) ?_
  refine lv_aload_n hx hb dL_law_753 rfl (lv_at hl 0 rfl) ?_
  refine lv_iload_n hx hb dL_law_754 rfl (lv_at hl 3 rfl) ?_
  refine lv_iconst (v := 1) hx hb dL_law_755 (by decide) ?_
  refine lv_iadd hx hb dL_law_756 ?_
  refine q_top (y := nI (i + 1)) (by exact nI_add i 1) ?_
  refine va_sld hx hb hX hbl hbA hS (vp_in_nI (show i + 1 < L by omega) (by omega)) dL_law_757 ?_
  refine q_top (y := xs (i + 1)) (by rw [nI_clamp (by omega)]) ?_
  refine lv_aload_n hx hb dL_law_758 rfl (lv_at hl 0 rfl) ?_
  refine lv_iload_n hx hb dL_law_759 rfl (lv_at hl 3 rfl) ?_
  refine lv_iconst (v := 2) hx hb dL_law_760 (by decide) ?_
  refine lv_iadd hx hb dL_law_761 ?_
  refine q_top (y := nI (i + 2)) (by exact nI_add i 2) ?_
  refine va_sld hx hb hX hbl hbA hS (vp_in_nI (show i + 2 < L by omega) (by omega)) dL_law_762 ?_
  refine q_top (y := xs (i + 2)) (by rw [nI_clamp (by omega)]) ?_
  refine q_cv [.int (xs (i + 1)), .int (xs (i + 2))] (rest := [.int (aVerdict (mk fm) (mk fw) rec lim (nI n) (xs (i + 1)) (xs (i + 2)))]) ⟨hx, hb, hml, hown, hts⟩ (mX1_verdict l dC dI y0 y1 y2 y3 y4 y5 c1 n rec lim gb gj gm gw ft (mk fm) (mk fw) (xs (i + 1)) (xs (i + 2)) hM hV hT hn) gL_law_X1_verdict rfl rfl rfl hdX1_verdict ⟨Nat.le_of_ble_eq_true rfl, Nat.le_of_ble_eq_true rfl⟩ rfl hKy hPy rfl rfl hl.1 rfl (Nat.le_of_ble_eq_true rfl) dL_law_763 ⟨Nat.le_of_ble_eq_true rfl, Nat.le_of_ble_eq_true rfl⟩ ?_
  refine lv_icmp_eq (tgt := 794) hx hb dL_law_766 (by decide) (fun _ => ?_) (fun c_ => absurd (rfl) c_)
  exact K n J rec lim fb fj fm fw fr gb gj gm gw H locs ls R hP hD hS hl

set_option maxHeartbeats 4000000 in
set_option maxRecDepth 100000 in
theorem lc_told {p : Program} {l : Launch} {e : Env} {s : State} {m : MethodId} {below : List Frame} {meth : Method} {c : Code} {dC : Nat → ClassId} {dI : Nat → Nat → Nat} {b L : Nat} {xs : Nat → Int32} {x0 x1 x2 x3 x4 x5 y0 y1 y2 y3 y4 y5 : Nat} {c0 c1 : ClassId} {ft : Nat → Int32} {i : Nat} (hL : L ≤ 3072) (C0 : lw_At p s m meth c b L xs) (hK : va_K (dC, dI) vwCl [(c0, .int), (c1, .int)] s) (hi : i + 6 ≤ L) (K : LK p l e s m below meth c dC dI b x0 x1 x2 x3 x4 x5 y0 y1 y2 y3 y4 y5 c0 c1 ft i 794) : LK p l e s m below meth c dC dI b x0 x1 x2 x3 x4 x5 y0 y1 y2 y3 y4 y5 c0 c1 ft i 771 := by
  intro n J rec lim fb fj fm fw fr gb gj gm gw H locs ls R hP hD hS hl
  obtain ⟨hx, hb, hr, hml, hown, hts, hX, hbl, hlocks, hgv⟩ := C0
  have hown : s.vm.findClass RL = some m.cls := hown
  have hts := fun w h => hts w (wsL_law_in w h)
  have hA : ∀ q : Nat, s.heap.size ≤ q → (fun q : Nat => s.heap.size ≤ q) q := fun _ h => h
  have hbA : ¬ (fun q : Nat => s.heap.size ≤ q) b := Nat.not_le.mpr hbl
  obtain ⟨hn, hJ, hJ1, hJ0, hBb, hM, hV, hT, hB⟩ := id R
  have hKx := hK.sub (tys' := [(c0, .int)]) [0] rfl
  have hKy := hK.sub (tys' := [(c1, .int)]) [1] rfl
  have hPx := hP.sub (ws' := wX x0 x1 x2 x3 x4 x5 c0 (nI n) rec lim fb fj fm fw fr) [0, 1, 2, 3, 4, 5] rfl
  have hPy := hP.sub (ws' := wY y0 y1 y2 y3 y4 y5 c1 (nI n) rec lim gb gj gm gw ft) [6, 7, 8, 9, 10, 11] rfl
  refine lv_aload_n hx hb dL_law_771 rfl (lv_at hl 1 rfl) ?_
  refine lv_aload_n hx hb dL_law_772 rfl (lv_at hl 0 rfl) ?_
  refine lv_iload_n hx hb dL_law_773 rfl (lv_at hl 3 rfl) ?_
  refine lv_iconst (v := 1) hx hb dL_law_774 (by decide) ?_
  refine lv_iadd hx hb dL_law_775 ?_
  refine q_top (y := nI (i + 1)) (by exact nI_add i 1) ?_
  refine va_sld hx hb hX hbl hbA hS (vp_in_nI (show i + 1 < L by omega) (by omega)) dL_law_776 ?_
  refine q_top (y := xs (i + 1)) (by rw [nI_clamp (by omega)]) ?_
  refine q_cv [.int (xs (i + 1))] (rest := []) ⟨hx, hb, hml, hown, hts⟩ (mX0_told l dC dI x0 x1 x2 x3 x4 x5 c0 n rec lim fb fj fm fw fr (xs (i + 1)) hn) gL_law_X0_told rfl rfl rfl hdX0_told ⟨Nat.le_of_ble_eq_true rfl, Nat.le_of_ble_eq_true rfl⟩ rfl hKx hPx rfl rfl hl.1 rfl (Nat.le_of_ble_eq_true rfl) dL_law_777 ⟨Nat.le_of_ble_eq_true rfl, Nat.le_of_ble_eq_true rfl⟩ ?_
  refine lv_aload_n hx hb dL_law_780 rfl (lv_at hl 2 rfl) ?_
  refine lv_aload_n hx hb dL_law_781 rfl (lv_at hl 0 rfl) ?_
  refine lv_iload_n hx hb dL_law_782 rfl (lv_at hl 3 rfl) ?_
  refine lv_iconst (v := 1) hx hb dL_law_783 (by decide) ?_
  refine lv_iadd hx hb dL_law_784 ?_
  refine q_top (y := nI (i + 1)) (by exact nI_add i 1) ?_
  refine va_sld hx hb hX hbl hbA hS (vp_in_nI (show i + 1 < L by omega) (by omega)) dL_law_785 ?_
  refine q_top (y := xs (i + 1)) (by rw [nI_clamp (by omega)]) ?_
  refine q_cv [.int (xs (i + 1))] (rest := [.int (a0Told fj fm (mk fm) (mk fw) n rec lim (xs (i + 1)))]) ⟨hx, hb, hml, hown, hts⟩ (mX1_told l dC dI y0 y1 y2 y3 y4 y5 c1 n rec lim gb gj gm gw ft (mk fm) (mk fw) J (xs (i + 1)) hM hV hT hn hJ1) gL_law_X1_told rfl rfl rfl hdX1_told ⟨Nat.le_of_ble_eq_true rfl, Nat.le_of_ble_eq_true rfl⟩ rfl hKy hPy rfl rfl hl.1 rfl (Nat.le_of_ble_eq_true rfl) dL_law_786 ⟨Nat.le_of_ble_eq_true rfl, Nat.le_of_ble_eq_true rfl⟩ ?_
  refine lv_icmp_eq (tgt := 794) hx hb dL_law_789 (by decide) (fun _ => ?_) (fun c_ => absurd (told_eq R rec lim _) c_)
  exact K n J rec lim fb fj fm fw fr gb gj gm gw H locs ls R hP hD hS hl
