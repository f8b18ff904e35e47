set_option maxHeartbeats 4000000 in
set_option maxRecDepth 100000 in
theorem law_loop {p : Program} {l : Launch} {e : Env} {s : State} {m : MethodId} {below : List Frame} {meth : Method} {c : Code} {dC : Nat → ClassId} {dI : Nat → Nat → Nat} {b L : Nat} {xs : Nat → Int32} {x0 x1 x2 x3 x4 x5 y0 y1 y2 y3 y4 y5 : Nat} {c0 c1 : ClassId} {ft : Nat → Int32} (hL : L ≤ 3072) (C0 : lw_At p s m meth c b L xs) (hK : va_K (dC, dI) vwCl [(c0, .int), (c1, .int)] s) : ∀ k i, i ≤ L → L < i + k → LK p l e s m below meth c dC dI b x0 x1 x2 x3 x4 x5 y0 y1 y2 y3 y4 y5 c0 c1 ft i 18 := by
  intro k
  induction k with
  | zero =>
    intro i h1 h2
    omega
  | succ k ih =>
    intro i h1 h2 n J rec lim fb fj fm fw fr gb gj gm gw H locs ls R hP hD hS hl
    obtain ⟨hx, hb, hr, hml, hown, hts, hX, hbl, hlocks, hgv⟩ := id C0
    have hbA : ¬ (fun q : Nat => s.heap.size ≤ q) b := Nat.not_le.mpr hbl
    refine lv_iload_n hx hb dL_law_18 rfl (lv_at hl 3 rfl) ?_
    refine lv_aload_n hx hb dL_law_19 rfl (lv_at hl 0 rfl) ?_
    refine va_slen hx hb hX hbl hbA hS dL_law_20 ?_
    refine lv_bipush (v := 6) hx hb dL_law_21 (by decide) ?_
    refine lv_isub hx hb dL_law_23 ?_
    have e6 : (Int32.ofNat L - 6).toInt = (L : Int) - 6 := pk_sub_toInt (a := L) (b := 6) (by omega) (by decide)
    refine lv_icmp_gt (tgt := 800) hx hb dL_law_24 (by decide) (fun c_1 => ?_) (fun c_1 => ?_)
    · refine lv_iconst (v := 1) hx hb dL_law_800 (by decide) ?_
      refine va_forget (fun q hq => hS.2.2 q hq) ?_
      exact lw_ret hx hb hr hlocks dL_law_801
    have hi : i + 6 ≤ L := by
      rw [i32_lt, e6, nI_toInt (by omega)] at c_1
      omega
    refine lv_aload_n hx hb dL_law_27 rfl (lv_at hl 0 rfl) ?_
    refine lv_iload_n hx hb dL_law_28 rfl (lv_at hl 3 rfl) ?_
    refine va_sld hx hb hX hbl hbA hS (vp_in_nI (show i < L by omega) (by omega)) dL_law_29 ?_
    refine lv_bipush (v := 31) hx hb dL_law_30 (by decide) ?_
    refine lv_iand hx hb dL_law_32 ?_
    obtain ⟨j, hj, ej⟩ := pk_andE (xs (nI i).toNatClampNeg) (m := 31) 5 (by decide)
    refine q_top (y := nI j) ej ?_
    have K : LK p l e s m below meth c dC dI b x0 x1 x2 x3 x4 x5 y0 y1 y2 y3 y4 y5 c0 c1 ft i 794 := by
      intro n J rec lim fb fj fm fw fr gb gj gm gw H locs ls R hP hD hS hl
      refine lv_iinc (v := nI (i + 6)) (lv' := [(3, .int (nI (i + 6))), (0, .ref b), (1, .ref x0), (2, .ref y0)]) hx hb dL_law_794 hl (k := 3) rfl (by exact nI_add i 6) (by decide) rfl (fun ls hl => ?_)
      refine lv_goto (tgt := 18) hx hb dL_law_797 (by decide) ?_
      exact ih (i + 6) hi (by omega) n J rec lim fb fj fm fw fr gb gj gm gw H locs ls R hP hD hS (lv_sub (l' := [(0, .ref b), (1, .ref x0), (2, .ref y0), (3, .int (nI (i + 6)))]) hl [1, 2, 3, 0] rfl)
    by_cases j0 : j = 0
    · subst j0
      refine lv_tableIn (tgt := 120) hx hb dL_law_33 (by decide) (by decide) rfl (by decide) ?_
      exact lc_enter hL C0 hK hi K n J rec lim fb fj fm fw fr gb gj gm gw H locs ls R hP hD hS hl
    by_cases j1 : j = 1
    · subst j1
      refine lv_tableIn (tgt := 143) hx hb dL_law_33 (by decide) (by decide) rfl (by decide) ?_
      exact lc_jump hL C0 hK hi K n J rec lim fb fj fm fw fr gb gj gm gw H locs ls R hP hD hS hl
    by_cases j2 : j = 2
    · subst j2
      refine lv_tableIn (tgt := 186) hx hb dL_law_33 (by decide) (by decide) rfl (by decide) ?_
      exact lc_undo hL C0 hK hi K n J rec lim fb fj fm fw fr gb gj gm gw H locs ls R hP hD hS hl
    by_cases j3 : j = 3
    · subst j3
      refine lv_tableIn (tgt := 209) hx hb dL_law_33 (by decide) (by decide) rfl (by decide) ?_
      exact lc_record hL C0 hK hi K n J rec lim fb fj fm fw fr gb gj gm gw H locs ls R hP hD hS hl
    by_cases j4 : j = 4
    · subst j4
      refine lv_tableIn (tgt := 232) hx hb dL_law_33 (by decide) (by decide) rfl (by decide) ?_
      exact lc_limit hL C0 hK hi K n J rec lim fb fj fm fw fr gb gj gm gw H locs ls R hP hD hS hl
    by_cases j5 : j = 5
    · subst j5
      refine lv_tableIn (tgt := 255) hx hb dL_law_33 (by decide) (by decide) rfl (by decide) ?_
      exact lc_value hL C0 hK hi K n J rec lim fb fj fm fw fr gb gj gm gw H locs ls R hP hD hS hl
    by_cases j6 : j = 6
    · subst j6
      refine lv_tableIn (tgt := 298) hx hb dL_law_33 (by decide) (by decide) rfl (by decide) ?_
      exact lc_fits hL C0 hK hi K n J rec lim fb fj fm fw fr gb gj gm gw H locs ls R hP hD hS hl
    by_cases j7 : j = 7
    · subst j7
      refine lv_tableIn (tgt := 361) hx hb dL_law_33 (by decide) (by decide) rfl (by decide) ?_
      exact lc_count hL C0 hK hi K n J rec lim fb fj fm fw fr gb gj gm gw H locs ls R hP hD hS hl
    by_cases j8 : j = 8
    · subst j8
      refine lv_tableIn (tgt := 414) hx hb dL_law_33 (by decide) (by decide) rfl (by decide) ?_
      exact lc_turned hL C0 hK hi K n J rec lim fb fj fm fw fr gb gj gm gw H locs ls R hP hD hS hl
    by_cases j9 : j = 9
    · subst j9
      refine lv_tableIn (tgt := 467) hx hb dL_law_33 (by decide) (by decide) rfl (by decide) ?_
      exact lc_longest hL C0 hK hi K n J rec lim fb fj fm fw fr gb gj gm gw H locs ls R hP hD hS hl
    by_cases j10 : j = 10
    · subst j10
      refine lv_tableIn (tgt := 520) hx hb dL_law_33 (by decide) (by decide) rfl (by decide) ?_
      exact lc_skip hL C0 hK hi K n J rec lim fb fj fm fw fr gb gj gm gw H locs ls R hP hD hS hl
    by_cases j11 : j = 11
    · subst j11
      refine lv_tableIn (tgt := 583) hx hb dL_law_33 (by decide) (by decide) rfl (by decide) ?_
      exact lc_pick hL C0 hK hi K n J rec lim fb fj fm fw fr gb gj gm gw H locs ls R hP hD hS hl
    by_cases j12 : j = 12
    · subst j12
      refine lv_tableIn (tgt := 636) hx hb dL_law_33 (by decide) (by decide) rfl (by decide) ?_
      exact lc_best hL C0 hK hi K n J rec lim fb fj fm fw fr gb gj gm gw H locs ls R hP hD hS hl
    by_cases j13 : j = 13
    · subst j13
      refine lv_tableIn (tgt := 659) hx hb dL_law_33 (by decide) (by decide) rfl (by decide) ?_
      exact lc_ahead hL C0 hK hi K n J rec lim fb fj fm fw fr gb gj gm gw H locs ls R hP hD hS hl
    by_cases j14 : j = 14
    · subst j14
      refine lv_tableIn (tgt := 692) hx hb dL_law_33 (by decide) (by decide) rfl (by decide) ?_
      exact lc_place hL C0 hK hi K n J rec lim fb fj fm fw fr gb gj gm gw H locs ls R hP hD hS hl
    by_cases j15 : j = 15
    · subst j15
      refine lv_tableIn (tgt := 715) hx hb dL_law_33 (by decide) (by decide) rfl (by decide) ?_
      exact lc_order hL C0 hK hi K n J rec lim fb fj fm fw fr gb gj gm gw H locs ls R hP hD hS hl
    by_cases j16 : j = 16
    · subst j16
      refine lv_tableIn (tgt := 738) hx hb dL_law_33 (by decide) (by decide) rfl (by decide) ?_
      exact lc_verdict hL C0 hK hi K n J rec lim fb fj fm fw fr gb gj gm gw H locs ls R hP hD hS hl
    by_cases j17 : j = 17
    · subst j17
      refine lv_tableIn (tgt := 771) hx hb dL_law_33 (by decide) (by decide) rfl (by decide) ?_
      exact lc_told hL C0 hK hi K n J rec lim fb fj fm fw fr gb gj gm gw H locs ls R hP hD hS hl
    refine lv_tableOut (tgt := 794) hx hb dL_law_33 (Or.inr (by rw [nI_toInt (by omega)]; omega)) (by decide) ?_
    exact K n J rec lim fb fj fm fw fr gb gj gm gw H locs ls R hP hD hS hl
