theorem plc_0 {q : Nat → Bool} {i : Nat} (h : q i = false) : (nI (cntB q i) + 1) + 0 = nI (cntB q (i + 1)) + 1 := by
  simp only [cntB, h, Int32.add_zero]
  rfl
theorem plc_1 {q : Nat → Bool} {i : Nat} (h : q i = true) : (nI (cntB q i) + 1) + 1 = nI (cntB q (i + 1)) + 1 := by
  simp only [cntB, h, if_true]
  rw [nI_1]
theorem bnz {x : Int32} (h : (!decide (x = 0)) = true) : ¬ x = 0 := by simpa using h
theorem bzz {x : Int32} (h : (!decide (x = 0)) = false) : x = 0 := by simpa using h
theorem beh_1 {M V : Nat → Nat → Int32} {lim : Int32} {i j : Nat} (h : 0 < cmpR M V lim j i) : (1 : Int32) = ifz (befR (srt M V lim) i j) 1 := by
  have := cmpR_gt (Int32.not_le.mpr h)
  simp [ifz, befR, this]
theorem cmpR_z {M V : Nat → Nat → Int32} {lim : Int32} {i j : Nat} (h : cmpR M V lim j i = 0) : lx6 (srt M V lim j) (srt M V lim i) = false ∧ lx6 (srt M V lim i) (srt M V lim j) = false := by
  unfold cmpR at h
  split at h
  · exact absurd h (by decide)
  · split at h
    · exact absurd h (by decide)
    · rename_i a b
      exact ⟨by simpa using a, by simpa using b⟩
theorem cmpR_nz {M V : Nat → Nat → Int32} {lim : Int32} {i j : Nat} (h1 : ¬ 0 < cmpR M V lim j i) (h : ¬ cmpR M V lim j i = 0) : lx6 (srt M V lim j) (srt M V lim i) = false ∧ lx6 (srt M V lim i) (srt M V lim j) = true := by
  unfold cmpR at h h1
  split at h
  · rename_i a
    rw [if_pos a] at h1
    exact absurd (by decide) h1
  · split at h
    · rename_i a b
      exact ⟨by simpa using a, b⟩
    · exact absurd rfl h
theorem beh_2 {M V : Nat → Nat → Int32} {lim : Int32} {i j : Nat} (h1 : ¬ 0 < cmpR M V lim j i) (h : ¬ cmpR M V lim j i = 0) : (0 : Int32) = ifz (befR (srt M V lim) i j) 1 := by
  obtain ⟨a, b⟩ := cmpR_nz h1 h
  simp [ifz, befR, a, b]
theorem beh_3 {M V : Nat → Nat → Int32} {lim : Int32} {i j : Nat} (hi : i < 8) (hj : j < 8) (h : cmpR M V lim j i = 0) (k : nI j ≤ nI i) : (0 : Int32) = ifz (befR (srt M V lim) i j) 1 := by
  obtain ⟨a, b⟩ := cmpR_z h
  rw [nI_leI (by omega) (by omega)] at k
  simp [ifz, befR, a, b]
  omega
theorem beh_4 {M V : Nat → Nat → Int32} {lim : Int32} {i j : Nat} (hi : i < 8) (hj : j < 8) (h : cmpR M V lim j i = 0) (k : ¬ nI j ≤ nI i) : (1 : Int32) = ifz (befR (srt M V lim) i j) 1 := by
  obtain ⟨a, b⟩ := cmpR_z h
  rw [nI_leI (by omega) (by omega)] at k
  simp [ifz, befR, a, b]
  omega
theorem hdX1_compared : yX1_compared.cls = RX1 ∧ yX1_compared.cls ≠ "java/lang/invoke/MethodHandle" ∧ yX1_compared.cls ≠ "java/lang/invoke/VarHandle" ∧ (parseMethodDescriptor yX1_compared.desc).map (fun d => d.parameters.length) = some 2 := by decide +kernel
set_option maxHeartbeats 4000000 in
set_option maxRecDepth 100000 in
theorem mX1_compared (l : Launch) (dC : Nat → ClassId) (dI : Nat → Nat → Nat) (h qb qj qm qw qt : Nat) (cA : ClassId) (n : Nat) (rec lim : Int32) (fb fj fm fw ft : Nat → Int32) (M : Nat → Nat → Int32) (V : Nat → Nat → Int32) (a : Nat) (b : Nat) (hM : ∀ j r, j < 8 → r < 6 → (if nI r < fj j then fm (6 * j + r) else 0) = M j r) (hV : ∀ j r, j < 8 → r < 6 → (if nI r < fj j then fw (6 * j + r) else 100) = V j r) (hT : ft 0 = 1 ∧ ft 1 = 3 ∧ ft 2 = 4 ∧ ft 3 = 6 ∧ ft 4 = 2 ∧ ft 5 = 5) (hB : okM M) (ha : a < 8) (hb8 : b < 8) : Met l yX1_compared wsX1_compared ({ frames := 4, cells := 0, slots := 0, locals := 92 }) (va_Pc [.ref h, .int (nI a), .int (nI b)] (fun U => va_P (dC, dI) vwCl (wY h qb qj qm qw qt cA (nI n) rec lim fb fj fm fw ft) U.heap ∧ va_K (dC, dI) vwCl [(cA, .int)] U)) (QcRead (cmpR M V lim a b)) 0 0 (fun _ => False) := by
  refine Met.ofW (cc := cX1_compared) (maxL := 7) (ret := (some .int)) (by decide) rfl ?_
  intro p e s m args below meth c s₁ B hml hv
  obtain ⟨rfl, hP, hK⟩ := hv
  have hx := B.exec
  have hb := B.bytes
  have hr := B.returns
  have hts := atoms_spec (ws := wsX1_compared) B.pre
  have hown : s.vm.findClass RX1 = some m.cls := findClass_of_methodNamed B.named
  have hlk := B.notSynchronized
  have hl := lv_entry ([.ref h, .int (nI a), .int (nI b)]) (n := 7) (Nat.le_of_ble_eq_true rfl)
  rw [lg_entry_eq]
  generalize (lg_sl ([.ref h, .int (nI a), .int (nI b)]) ++ List.replicate (7 - (lg_sl ([.ref h, .int (nI a), .int (nI b)])).length) Slot.unset).toArray = ls at hl ⊢
  have hl : lv_has ls 7 [(0, .ref h), (1, .int (nI a)), (2, .int (nI b))] := hl
  refine lv_sipush (v := 1201) hx hb dX1_compared_0 (by decide) ?_
  refine lv_istore_n (lv' := [(3, .int 1201), (0, .ref h), (1, .int (nI a)), (2, .int (nI b))]) hx hb dX1_compared_3 rfl hl (by decide) rfl (fun ls hl => ?_)
  refine q_lm (head := 4) (σ := Int32) (fun u => u.toInt.toNat) (fun u => [(0, .ref h), (1, .int (nI a)), (2, .int (nI b)), (3, .int u)]) (fun u => cI M V lim a b u) (1201) (cI_0 hB ha hb8) (lv_sub (l' := [(0, .ref h), (1, .int (nI a)), (2, .int (nI b)), (3, .int 1201)]) hl [1, 2, 3, 0] rfl) ?_
  intro u hI_u ih_u ls hl
  have hl : lv_has ls 7 [(0, .ref h), (1, .int (nI a)), (2, .int (nI b)), (3, .int u)] := hl
  refine lv_iload_n hx hb dX1_compared_4 rfl (lv_at hl 3 rfl) ?_
  refine lv_if_le (tgt := 81) hx hb dX1_compared_5 (by decide) (fun c_1 => ?_) (fun c_1 => ?_)
  · skip
    refine lv_iconst (v := 0) hx hb dX1_compared_81 (by decide) ?_
    exact q_ri hx hb hr hlk (by exact (cmp_e hB ha hb8 hI_u c_1).symm) dX1_compared_82
  · skip
    refine lv_aload_n hx hb dX1_compared_8 rfl (lv_at hl 0 rfl) ?_
    refine lv_iload_n hx hb dX1_compared_9 rfl (lv_at hl 1 rfl) ?_
    refine lv_iload_n hx hb dX1_compared_10 rfl (lv_at hl 3 rfl) ?_
    refine q_cv [.int (nI a), .int u] (rest := []) ⟨hx, hb, hml, hown, hts⟩ (mX1_greatest l dC dI h qb qj qm qw qt cA n rec lim fb fj fm fw ft M V a u hM hV hT (by omega)) gX1_compared_X1_greatest rfl rfl rfl hdX1_greatest ⟨Nat.le_of_ble_eq_true rfl, Nat.le_of_ble_eq_true rfl⟩ rfl hK hP rfl rfl hl.1 rfl (Nat.le_of_ble_eq_true rfl) dX1_compared_11 ⟨Nat.zero_le _, Nat.zero_le _⟩ ?_
    refine lv_istore (lv' := [(4, .int (grtU (lgl M V lim a) (M a) u 6)), (0, .ref h), (1, .int (nI a)), (2, .int (nI b)), (3, .int u)]) hx hb dX1_compared_14 hl (by decide) rfl (fun ls hl => ?_)
    refine lv_aload_n hx hb dX1_compared_16 rfl (lv_at hl 1 rfl) ?_
    refine lv_iload_n hx hb dX1_compared_17 rfl (lv_at hl 3 rfl) ?_
    refine lv_iload_n hx hb dX1_compared_18 rfl (lv_at hl 4 rfl) ?_
    refine q_cv [.int (nI b), .int u] (rest := []) ⟨hx, hb, hml, hown, hts⟩ (mX1_greatest l dC dI h qb qj qm qw qt cA n rec lim fb fj fm fw ft M V b u hM hV hT (by omega)) gX1_compared_X1_greatest rfl rfl rfl hdX1_greatest ⟨Nat.le_of_ble_eq_true rfl, Nat.le_of_ble_eq_true rfl⟩ rfl hK hP rfl rfl hl.1 rfl (Nat.le_of_ble_eq_true rfl) dX1_compared_19 ⟨Nat.zero_le _, Nat.zero_le _⟩ ?_
    refine lv_istore (lv' := [(5, .int (grtU (lgl M V lim b) (M b) u 6)), (4, .int (grtU (lgl M V lim a) (M a) u 6)), (0, .ref h), (1, .int (nI a)), (2, .int (nI b)), (3, .int u)]) hx hb dX1_compared_22 hl (by decide) rfl (fun ls hl => ?_)
    refine lv_iload hx hb dX1_compared_24 (lv_at hl 1 rfl) ?_
    refine lv_iload hx hb dX1_compared_26 (lv_at hl 0 rfl) ?_
    refine q_jn (pj := 38) (v := zB M V lim a b u) (rest := []) ?_ (fun J => ?_)
    rotate_left
    · skip
      refine lv_icmp_le (tgt := 36) hx hb dX1_compared_28 (by decide) (fun c_2 => ?_) (fun c_2 => ?_)
      · skip
        refine lv_iload hx hb dX1_compared_36 (lv_at hl 0 rfl) ?_
        exact q_top (by simp [zB, c_2]) J
      · skip
        refine lv_iload hx hb dX1_compared_31 (lv_at hl 1 rfl) ?_
        refine lv_goto (tgt := 38) hx hb dX1_compared_33 (by decide) ?_
        exact q_top (by simp [zB, c_2]) J
    refine lv_istore_n (lv' := [(3, .int (zB M V lim a b u)), (5, .int (grtU (lgl M V lim b) (M b) u 6)), (4, .int (grtU (lgl M V lim a) (M a) u 6)), (0, .ref h), (1, .int (nI a)), (2, .int (nI b))]) hx hb dX1_compared_38 rfl hl (by decide) rfl (fun ls hl => ?_)
    refine lv_iload_n hx hb dX1_compared_39 rfl (lv_at hl 0 rfl) ?_
    refine q_jn (pj := 60) (v := mrI M V lim a b (zB M V lim a b u)) (rest := []) ?_ (fun J => ?_)
    rotate_left
    · skip
      refine lv_if_ne (tgt := 47) hx hb dX1_compared_40 (by decide) (fun c_3 => ?_) (fun c_3 => ?_)
      · skip
        refine lv_aload_n hx hb dX1_compared_47 rfl (lv_at hl 3 rfl) ?_
        refine lv_iload_n hx hb dX1_compared_48 rfl (lv_at hl 4 rfl) ?_
        refine lv_iload_n hx hb dX1_compared_49 rfl (lv_at hl 0 rfl) ?_
        refine q_cv [.int (nI a), .int (zB M V lim a b u)] (rest := []) ⟨hx, hb, hml, hown, hts⟩ (mX1_many l dC dI h qb qj qm qw qt cA n rec lim fb fj fm fw ft M V a (zB M V lim a b u) hM hV hT (by omega)) gX1_compared_X1_many rfl rfl rfl hdX1_many ⟨Nat.le_of_ble_eq_true rfl, Nat.le_of_ble_eq_true rfl⟩ rfl hK hP rfl rfl hl.1 rfl (Nat.le_of_ble_eq_true rfl) dX1_compared_50 ⟨Nat.zero_le _, Nat.zero_le _⟩ ?_
        refine lv_aload_n hx hb dX1_compared_53 rfl (lv_at hl 3 rfl) ?_
        refine lv_iload_n hx hb dX1_compared_54 rfl (lv_at hl 5 rfl) ?_
        refine lv_iload_n hx hb dX1_compared_55 rfl (lv_at hl 0 rfl) ?_
        refine q_cv [.int (nI b), .int (zB M V lim a b u)] (rest := [.int (nI (cntB (fun t => lgl M V lim a t && decide (M a t = (zB M V lim a b u))) 6))]) ⟨hx, hb, hml, hown, hts⟩ (mX1_many l dC dI h qb qj qm qw qt cA n rec lim fb fj fm fw ft M V b (zB M V lim a b u) hM hV hT (by omega)) gX1_compared_X1_many rfl rfl rfl hdX1_many ⟨Nat.le_of_ble_eq_true rfl, Nat.le_of_ble_eq_true rfl⟩ rfl hK hP rfl rfl hl.1 rfl (Nat.le_of_ble_eq_true rfl) dX1_compared_56 ⟨Nat.zero_le _, Nat.zero_le _⟩ ?_
        refine lv_isub hx hb dX1_compared_59 ?_
        exact q_top (by simp [mrI, mnI, c_3]) J
      · skip
        refine lv_iconst (v := 0) hx hb dX1_compared_43 (by decide) ?_
        refine lv_goto (tgt := 60) hx hb dX1_compared_44 (by decide) ?_
        exact q_top (by simp [mrI, mnI, c_3]) J
    refine lv_istore (lv' := [(6, .int (mrI M V lim a b (zB M V lim a b u))), (3, .int (zB M V lim a b u)), (5, .int (grtU (lgl M V lim b) (M b) u 6)), (4, .int (grtU (lgl M V lim a) (M a) u 6)), (0, .ref h), (1, .int (nI a)), (2, .int (nI b))]) hx hb dX1_compared_60 hl (by decide) rfl (fun ls hl => ?_)
    refine lv_iload hx hb dX1_compared_62 (lv_at hl 0 rfl) ?_
    refine lv_if_eq (tgt := 78) hx hb dX1_compared_64 (by decide) (fun c_4 => ?_) (fun c_4 => ?_)
    · skip
      refine lv_goto (tgt := 4) hx hb dX1_compared_78 (by decide) ?_
      exact ih_u (zB M V lim a b u) (by exact (cmp_back hI_u c_1 c_4).1) (by exact (cmp_back hI_u c_1 c_4).2) ls (lv_sub (l' := [(0, .ref h), (1, .int (nI a)), (2, .int (nI b)), (3, .int (zB M V lim a b u))]) hl [4, 5, 6, 1] rfl)
    · skip
      refine lv_iload hx hb dX1_compared_67 (lv_at hl 0 rfl) ?_
      refine lv_if_le (tgt := 76) hx hb dX1_compared_69 (by decide) (fun c_5 => ?_) (fun c_5 => ?_)
      · skip
        refine lv_iconst (v := (-1)) hx hb dX1_compared_76 (by decide) ?_
        exact q_ri hx hb hr hlk (by exact (cmp_n hB ha hb8 hI_u c_1 c_4 c_5).symm) dX1_compared_77
      · skip
        refine lv_iconst (v := 1) hx hb dX1_compared_72 (by decide) ?_
        refine lv_goto (tgt := 77) hx hb dX1_compared_73 (by decide) ?_
        exact q_ri hx hb hr hlk (by exact (cmp_p hB ha hb8 hI_u c_1 c_4 c_5).symm) dX1_compared_77

theorem hdX1_best : yX1_best.cls = RX1 ∧ yX1_best.cls ≠ "java/lang/invoke/MethodHandle" ∧ yX1_best.cls ≠ "java/lang/invoke/VarHandle" ∧ (parseMethodDescriptor yX1_best.desc).map (fun d => d.parameters.length) = some 1 := by decide +kernel
set_option maxHeartbeats 4000000 in
set_option maxRecDepth 100000 in
theorem mX1_best (l : Launch) (dC : Nat → ClassId) (dI : Nat → Nat → Nat) (h qb qj qm qw qt : Nat) (cA : ClassId) (n : Nat) (rec lim : Int32) (fb fj fm fw ft : Nat → Int32) (M : Nat → Nat → Int32) (V : Nat → Nat → Int32) (x : Int32) (hM : ∀ j r, j < 8 → r < 6 → (if nI r < fj j then fm (6 * j + r) else 0) = M j r) (hV : ∀ j r, j < 8 → r < 6 → (if nI r < fj j then fw (6 * j + r) else 100) = V j r) (hT : ft 0 = 1 ∧ ft 1 = 3 ∧ ft 2 = 4 ∧ ft 3 = 6 ∧ ft 4 = 2 ∧ ft 5 = 5) (hn : n ≤ 8) (hB : okM M) : Met l yX1_best wsX1_best ({ frames := 4, cells := 0, slots := 0, locals := 92 }) (va_Pc [.ref h, .int x] (fun U => va_P (dC, dI) vwCl (wY h qb qj qm qw qt cA (nI n) rec lim fb fj fm fw ft) U.heap ∧ va_K (dC, dI) vwCl [(cA, .int)] U)) (QcRead (aBest M V lim (nI n) x)) 0 0 (fun _ => False) := by
  refine Met.ofW (cc := cX1_best) (maxL := 2) (ret := (some .int)) (by decide) rfl ?_
  intro p e s m args below meth c s₁ B hml hv
  obtain ⟨rfl, hP, hK⟩ := hv
  have hx := B.exec
  have hb := B.bytes
  have hr := B.returns
  have hts := atoms_spec (ws := wsX1_best) B.pre
  have hown : s.vm.findClass RX1 = some m.cls := findClass_of_methodNamed B.named
  have hlk := B.notSynchronized
  have hl := lv_entry ([.ref h, .int x]) (n := 2) (Nat.le_of_ble_eq_true rfl)
  rw [lg_entry_eq]
  generalize (lg_sl ([.ref h, .int x]) ++ List.replicate (2 - (lg_sl ([.ref h, .int x])).length) Slot.unset).toArray = ls at hl ⊢
  have hl : lv_has ls 2 [(0, .ref h), (1, .int x)] := hl
  refine lv_aload_n hx hb dX1_best_0 rfl (lv_at hl 0 rfl) ?_
  refine lv_iload_n hx hb dX1_best_1 rfl (lv_at hl 1 rfl) ?_
  refine q_cv [.int x] (rest := []) ⟨hx, hb, hml, hown, hts⟩ (mX1_isJumper l dC dI h qb qj qm qw qt cA n rec lim fb fj fm fw ft x (by omega)) gX1_best_X1_isJumper rfl rfl rfl hdX1_isJumper ⟨Nat.le_of_ble_eq_true rfl, Nat.le_of_ble_eq_true rfl⟩ rfl hK hP rfl rfl hl.1 rfl (Nat.le_of_ble_eq_true rfl) dX1_best_2 ⟨Nat.zero_le _, Nat.zero_le _⟩ ?_
  refine lv_if_eq (tgt := 19) hx hb dX1_best_5 (by decide) (fun c_1 => ?_) (fun c_1 => ?_)
  · skip
    have c_1 : (jmp (nI n) x) = false := b2i_0 c_1
    refine lv_sipush (v := (-1000)) hx hb dX1_best_19 (by decide) ?_
    exact q_ri hx hb hr hlk (by first | (rw [aBest, if_pos c_1, nI_clamp (by omega)]; done) | simp [aBest, c_1]) dX1_best_22
  · skip
    have c_1 : (jmp (nI n) x) = true := b2i_n c_1
    obtain ⟨j, hj, rfl⟩ := jmp_of c_1 hn
    refine lv_aload_n hx hb dX1_best_8 rfl (lv_at hl 0 rfl) ?_
    refine lv_iload_n hx hb dX1_best_9 rfl (lv_at hl 1 rfl) ?_
    refine lv_sipush (v := 1201) hx hb dX1_best_10 (by decide) ?_
    refine q_cv [.int (nI j), .int 1201] (rest := []) ⟨hx, hb, hml, hown, hts⟩ (mX1_greatest l dC dI h qb qj qm qw qt cA n rec lim fb fj fm fw ft M V j 1201 hM hV hT (by omega)) gX1_best_X1_greatest rfl rfl rfl hdX1_greatest ⟨Nat.le_of_ble_eq_true rfl, Nat.le_of_ble_eq_true rfl⟩ rfl hK hP rfl rfl hl.1 rfl (Nat.le_of_ble_eq_true rfl) dX1_best_13 ⟨Nat.zero_le _, Nat.zero_le _⟩ ?_
    refine q_top (y := bstU (lgl M V lim j) (M j) 6) (by exact grt_bst (fun r hr => Int.lt_of_le_of_lt (hB j r (by omega) hr).2 (by decide))) ?_
    refine lv_goto (tgt := 22) hx hb dX1_best_16 (by decide) ?_
    exact q_ri hx hb hr hlk (by first | (rw [aBest, if_pos c_1, nI_clamp (by omega)]; done) | simp [aBest, c_1]) dX1_best_22

theorem hdX1_ahead : yX1_ahead.cls = RX1 ∧ yX1_ahead.cls ≠ "java/lang/invoke/MethodHandle" ∧ yX1_ahead.cls ≠ "java/lang/invoke/VarHandle" ∧ (parseMethodDescriptor yX1_ahead.desc).map (fun d => d.parameters.length) = some 2 := by decide +kernel
set_option maxHeartbeats 4000000 in
set_option maxRecDepth 100000 in
theorem mX1_ahead (l : Launch) (dC : Nat → ClassId) (dI : Nat → Nat → Nat) (h qb qj qm qw qt : Nat) (cA : ClassId) (n : Nat) (rec lim : Int32) (fb fj fm fw ft : Nat → Int32) (M : Nat → Nat → Int32) (V : Nat → Nat → Int32) (x : Int32) (y : Int32) (hM : ∀ j r, j < 8 → r < 6 → (if nI r < fj j then fm (6 * j + r) else 0) = M j r) (hV : ∀ j r, j < 8 → r < 6 → (if nI r < fj j then fw (6 * j + r) else 100) = V j r) (hT : ft 0 = 1 ∧ ft 1 = 3 ∧ ft 2 = 4 ∧ ft 3 = 6 ∧ ft 4 = 2 ∧ ft 5 = 5) (hn : n ≤ 8) (hB : okM M) : Met l yX1_ahead wsX1_ahead ({ frames := 5, cells := 0, slots := 0, locals := 118 }) (va_Pc [.ref h, .int x, .int y] (fun U => va_P (dC, dI) vwCl (wY h qb qj qm qw qt cA (nI n) rec lim fb fj fm fw ft) U.heap ∧ va_K (dC, dI) vwCl [(cA, .int)] U)) (QcRead (aAhead M V lim (nI n) x y)) 0 0 (fun _ => False) := by
  refine Met.ofW (cc := cX1_ahead) (maxL := 3) (ret := (some .int)) (by decide) rfl ?_
  intro p e s m args below meth c s₁ B hml hv
  obtain ⟨rfl, hP, hK⟩ := hv
  have hx := B.exec
  have hb := B.bytes
  have hr := B.returns
  have hts := atoms_spec (ws := wsX1_ahead) B.pre
  have hown : s.vm.findClass RX1 = some m.cls := findClass_of_methodNamed B.named
  have hlk := B.notSynchronized
  have hl := lv_entry ([.ref h, .int x, .int y]) (n := 3) (Nat.le_of_ble_eq_true rfl)
  rw [lg_entry_eq]
  generalize (lg_sl ([.ref h, .int x, .int y]) ++ List.replicate (3 - (lg_sl ([.ref h, .int x, .int y])).length) Slot.unset).toArray = ls at hl ⊢
  have hl : lv_has ls 3 [(0, .ref h), (1, .int x), (2, .int y)] := hl
  refine lv_aload_n hx hb dX1_ahead_0 rfl (lv_at hl 0 rfl) ?_
  refine lv_iload_n hx hb dX1_ahead_1 rfl (lv_at hl 1 rfl) ?_
  refine q_cv [.int x] (rest := []) ⟨hx, hb, hml, hown, hts⟩ (mX1_isJumper l dC dI h qb qj qm qw qt cA n rec lim fb fj fm fw ft x (by omega)) gX1_ahead_X1_isJumper rfl rfl rfl hdX1_isJumper ⟨Nat.le_of_ble_eq_true rfl, Nat.le_of_ble_eq_true rfl⟩ rfl hK hP rfl rfl hl.1 rfl (Nat.le_of_ble_eq_true rfl) dX1_ahead_2 ⟨Nat.zero_le _, Nat.zero_le _⟩ ?_
  refine lv_if_eq (tgt := 16) hx hb dX1_ahead_5 (by decide) (fun c_1 => ?_) (fun c_1 => ?_)
  · skip
    have c_1 : (jmp (nI n) x) = false := b2i_0 c_1
    refine lv_sipush (v := (-1000)) hx hb dX1_ahead_16 (by decide) ?_
    exact q_ri hx hb hr hlk (by simp [aAhead, c_1]) dX1_ahead_19
  · skip
    have c_1 : (jmp (nI n) x) = true := b2i_n c_1
    refine lv_aload_n hx hb dX1_ahead_8 rfl (lv_at hl 0 rfl) ?_
    refine lv_iload_n hx hb dX1_ahead_9 rfl (lv_at hl 2 rfl) ?_
    refine q_cv [.int y] (rest := []) ⟨hx, hb, hml, hown, hts⟩ (mX1_isJumper l dC dI h qb qj qm qw qt cA n rec lim fb fj fm fw ft y (by omega)) gX1_ahead_X1_isJumper rfl rfl rfl hdX1_isJumper ⟨Nat.le_of_ble_eq_true rfl, Nat.le_of_ble_eq_true rfl⟩ rfl hK hP rfl rfl hl.1 rfl (Nat.le_of_ble_eq_true rfl) dX1_ahead_10 ⟨Nat.zero_le _, Nat.zero_le _⟩ ?_
    refine lv_if_ne (tgt := 20) hx hb dX1_ahead_13 (by decide) (fun c_2 => ?_) (fun c_2 => ?_)
    · skip
      have c_2 : (jmp (nI n) y) = true := b2i_n c_2
      obtain ⟨a8, ha8, rfl⟩ := jmp_of c_1 hn
      obtain ⟨b8, hb8, rfl⟩ := jmp_of c_2 hn
      refine lv_aload_n hx hb dX1_ahead_20 rfl (lv_at hl 0 rfl) ?_
      refine lv_iload_n hx hb dX1_ahead_21 rfl (lv_at hl 1 rfl) ?_
      refine lv_iload_n hx hb dX1_ahead_22 rfl (lv_at hl 2 rfl) ?_
      refine q_cv [.int (nI a8), .int (nI b8)] (rest := []) ⟨hx, hb, hml, hown, hts⟩ (mX1_compared l dC dI h qb qj qm qw qt cA n rec lim fb fj fm fw ft M V a8 b8 hM hV hT hB (by omega) (by omega)) gX1_ahead_X1_compared rfl rfl rfl hdX1_compared ⟨Nat.le_of_ble_eq_true rfl, Nat.le_of_ble_eq_true rfl⟩ rfl hK hP rfl rfl hl.1 rfl (Nat.le_of_ble_eq_true rfl) dX1_ahead_23 ⟨Nat.zero_le _, Nat.zero_le _⟩ ?_
      refine lv_if_le (tgt := 33) hx hb dX1_ahead_26 (by decide) (fun c_3 => ?_) (fun c_3 => ?_)
      · skip
        refine lv_iconst (v := 0) hx hb dX1_ahead_33 (by decide) ?_
        exact q_ri hx hb hr hlk (by rw [aAhead, if_pos (by simp [c_1, c_2]), nI_clamp (by omega), nI_clamp (by omega)]; rw [cmpR_le c_3]; rfl) dX1_ahead_34
      · skip
        refine lv_iconst (v := 1) hx hb dX1_ahead_29 (by decide) ?_
        refine lv_goto (tgt := 34) hx hb dX1_ahead_30 (by decide) ?_
        exact q_ri hx hb hr hlk (by rw [aAhead, if_pos (by simp [c_1, c_2]), nI_clamp (by omega), nI_clamp (by omega)]; rw [cmpR_gt c_3]; rfl) dX1_ahead_34
    · skip
      have c_2 : (jmp (nI n) y) = false := b2i_0 c_2
      refine lv_sipush (v := (-1000)) hx hb dX1_ahead_16 (by decide) ?_
      exact q_ri hx hb hr hlk (by simp [aAhead, c_1, c_2]) dX1_ahead_19

theorem hdX1_place : yX1_place.cls = RX1 ∧ yX1_place.cls ≠ "java/lang/invoke/MethodHandle" ∧ yX1_place.cls ≠ "java/lang/invoke/VarHandle" ∧ (parseMethodDescriptor yX1_place.desc).map (fun d => d.parameters.length) = some 1 := by decide +kernel
set_option maxHeartbeats 4000000 in
set_option maxRecDepth 100000 in
theorem mX1_place (l : Launch) (dC : Nat → ClassId) (dI : Nat → Nat → Nat) (h qb qj qm qw qt : Nat) (cA : ClassId) (n : Nat) (rec lim : Int32) (fb fj fm fw ft : Nat → Int32) (M : Nat → Nat → Int32) (V : Nat → Nat → Int32) (x : Int32) (hM : ∀ j r, j < 8 → r < 6 → (if nI r < fj j then fm (6 * j + r) else 0) = M j r) (hV : ∀ j r, j < 8 → r < 6 → (if nI r < fj j then fw (6 * j + r) else 100) = V j r) (hT : ft 0 = 1 ∧ ft 1 = 3 ∧ ft 2 = 4 ∧ ft 3 = 6 ∧ ft 4 = 2 ∧ ft 5 = 5) (hn : n ≤ 8) (hB : okM M) : Met l yX1_place wsX1_place ({ frames := 5, cells := 0, slots := 0, locals := 118 }) (va_Pc [.ref h, .int x] (fun U => va_P (dC, dI) vwCl (wY h qb qj qm qw qt cA (nI n) rec lim fb fj fm fw ft) U.heap ∧ va_K (dC, dI) vwCl [(cA, .int)] U)) (QcRead (aPlace M V lim n x)) 0 0 (fun _ => False) := by
  refine Met.ofW (cc := cX1_place) (maxL := 4) (ret := (some .int)) (by decide) rfl ?_
  intro p e s m args below meth c s₁ B hml hv
  obtain ⟨rfl, hP, hK⟩ := hv
  have hx := B.exec
  have hb := B.bytes
  have hr := B.returns
  have hts := atoms_spec (ws := wsX1_place) B.pre
  have hown : s.vm.findClass RX1 = some m.cls := findClass_of_methodNamed B.named
  have hlk := B.notSynchronized
  have hin : ∀ w ∈ wsX10, w ∈ wsX1_place := fun w h => List.mem_cons_of_mem _ (List.mem_append_right _ h)
  have hf_32 := hts (.fieldLink RX1 32 "JumpBoardModel" "jumpers" "I") (by decide +kernel)
  have hl := lv_entry ([.ref h, .int x]) (n := 4) (Nat.le_of_ble_eq_true rfl)
  rw [lg_entry_eq]
  generalize (lg_sl ([.ref h, .int x]) ++ List.replicate (4 - (lg_sl ([.ref h, .int x])).length) Slot.unset).toArray = ls at hl ⊢
  have hl : lv_has ls 4 [(0, .ref h), (1, .int x)] := hl
  refine lv_aload_n hx hb dX1_place_0 rfl (lv_at hl 0 rfl) ?_
  refine lv_iload_n hx hb dX1_place_1 rfl (lv_at hl 1 rfl) ?_
  refine q_cv [.int x] (rest := []) ⟨hx, hb, hml, hown, hts⟩ (mX1_isJumper l dC dI h qb qj qm qw qt cA n rec lim fb fj fm fw ft x (by omega)) gX1_place_X1_isJumper rfl rfl rfl hdX1_isJumper ⟨Nat.le_of_ble_eq_true rfl, Nat.le_of_ble_eq_true rfl⟩ rfl hK hP rfl rfl hl.1 rfl (Nat.le_of_ble_eq_true rfl) dX1_place_2 ⟨Nat.zero_le _, Nat.zero_le _⟩ ?_
  refine lv_if_ne (tgt := 12) hx hb dX1_place_5 (by decide) (fun c_1 => ?_) (fun c_1 => ?_)
  · skip
    have c_1 : (jmp (nI n) x) = true := b2i_n c_1
    obtain ⟨j, hj, rfl⟩ := jmp_of c_1 hn
    refine lv_aload_n hx hb dX1_place_12 rfl (lv_at hl 0 rfl) ?_
    refine lv_iload_n hx hb dX1_place_13 rfl (lv_at hl 1 rfl) ?_
    refine q_cv [.int (nI j)] (rest := []) ⟨hx, hb, hml, hown, hts⟩ (mX1_best l dC dI h qb qj qm qw qt cA n rec lim fb fj fm fw ft M V (nI j) hM hV hT (by omega) hB) gX1_place_X1_best rfl rfl rfl hdX1_best ⟨Nat.le_of_ble_eq_true rfl, Nat.le_of_ble_eq_true rfl⟩ rfl hK hP rfl rfl hl.1 rfl (Nat.le_of_ble_eq_true rfl) dX1_place_14 ⟨Nat.zero_le _, Nat.zero_le _⟩ ?_
    refine q_top (y := bstU (lgl M V lim j) (M j) 6) (by rw [aBest, if_pos (jmp_nI (by omega) (by omega)), nI_clamp (by omega)]) ?_
    refine lv_if_ne (tgt := 22) hx hb dX1_place_17 (by decide) (fun c_2 => ?_) (fun c_2 => ?_)
    · skip
      refine lv_iconst (v := 1) hx hb dX1_place_22 (by decide) ?_
      refine lv_istore_n (lv' := [(2, .int 1), (0, .ref h), (1, .int (nI j))]) hx hb dX1_place_23 rfl hl (by decide) rfl (fun ls hl => ?_)
      refine lv_iconst (v := 0) hx hb dX1_place_24 (by decide) ?_
      refine lv_istore_n (lv' := [(3, .int 0), (2, .int 1), (0, .ref h), (1, .int (nI j))]) hx hb dX1_place_25 rfl hl (by decide) rfl (fun ls hl => ?_)
      refine q_lp (head := 26) (n) (fun i => [(0, .ref h), (1, .int (nI j)), (2, .int (nI (cntB (fun o => lx6 (srt M V lim o) (srt M V lim j)) i) + 1)), (3, .int (nI i))]) (fun i => True) (0) (by omega) (trivial) (q_hl (lv_sub (l' := [(0, .ref h), (1, .int (nI j)), (2, .int 1), (3, .int 0)]) hl [2, 3, 1, 0] rfl) (q_ck (q_ck (q_ce (by rfl) (q_ce (by rfl) (rfl)))))) ?_ ?_
      · intro i hi_i hI_i ih_i ls hl
        have hl : lv_has ls 4 [(0, .ref h), (1, .int (nI j)), (2, .int (nI (cntB (fun o => lx6 (srt M V lim o) (srt M V lim j)) i) + 1)), (3, .int (nI i))] := hl
        refine lv_iload_n hx hb dX1_place_26 rfl (lv_at hl 3 rfl) ?_
        refine lv_aload_n hx hb dX1_place_27 rfl (lv_at hl 0 rfl) ?_
        refine va_get (D := (dC, dI)) (ci := 1) (v := .int (nI n)) (C := RX1) (T := TX1) (N := 8) hx hb hts hin hown hK hP 0 rfl rfl 5 (by decide) hf_32 (fun _ h9 => h9) rfl dX1_place_28 ?_
        refine lv_icmp_ge (tgt := 57) hx hb dX1_place_31 (by decide) (fun c_3 => absurd c_3 (nI_ge hi_i (by omega))) (fun c_3 => ?_)
        refine lv_iload_n hx hb dX1_place_34 rfl (lv_at hl 2 rfl) ?_
        refine lv_aload_n hx hb dX1_place_35 rfl (lv_at hl 0 rfl) ?_
        refine lv_iload_n hx hb dX1_place_36 rfl (lv_at hl 3 rfl) ?_
        refine lv_iload_n hx hb dX1_place_37 rfl (lv_at hl 1 rfl) ?_
        refine q_cv [.int (nI i), .int (nI j)] (rest := [.int (nI (cntB (fun o => lx6 (srt M V lim o) (srt M V lim j)) i) + 1)]) ⟨hx, hb, hml, hown, hts⟩ (mX1_compared l dC dI h qb qj qm qw qt cA n rec lim fb fj fm fw ft M V i j hM hV hT hB (by omega) (by omega)) gX1_place_X1_compared rfl rfl rfl hdX1_compared ⟨Nat.le_of_ble_eq_true rfl, Nat.le_of_ble_eq_true rfl⟩ rfl hK hP rfl rfl hl.1 rfl (Nat.le_of_ble_eq_true rfl) dX1_place_38 ⟨Nat.zero_le _, Nat.zero_le _⟩ ?_
        refine lv_if_le (tgt := 48) hx hb dX1_place_41 (by decide) (fun c_4 => ?_) (fun c_4 => ?_)
        · skip
          refine lv_iconst (v := 0) hx hb dX1_place_48 (by decide) ?_
          refine lv_iadd hx hb dX1_place_49 ?_
          refine lv_istore_n (lv' := [(2, .int ((nI (cntB (fun o => lx6 (srt M V lim o) (srt M V lim j)) i) + 1) + 0)), (0, .ref h), (1, .int (nI j)), (3, .int (nI i))]) hx hb dX1_place_50 rfl hl (by decide) rfl (fun ls hl => ?_)
          refine lv_iinc (v := (nI (i + 1))) (lv' := [(3, .int (nI (i + 1))), (2, .int ((nI (cntB (fun o => lx6 (srt M V lim o) (srt M V lim j)) i) + 1) + 0)), (0, .ref h), (1, .int (nI j))]) hx hb dX1_place_51 hl (k := 3) rfl (by exact nI_1 _) (by decide) rfl (fun ls hl => ?_)
          refine lv_goto (tgt := 26) hx hb dX1_place_54 (by decide) ?_
          exact ih_i (by exact trivial) ls (q_hl (lv_sub (l' := [(0, .ref h), (1, .int (nI j)), (2, .int ((nI (cntB (fun o => lx6 (srt M V lim o) (srt M V lim j)) i) + 1) + 0)), (3, .int (nI (i + 1)))]) hl [2, 3, 1, 0] rfl) (q_ck (q_ck (q_ce (by exact plc_0 (cmpR_le c_4)) (q_ck (rfl))))))
        · skip
          refine lv_iconst (v := 1) hx hb dX1_place_44 (by decide) ?_
          refine lv_goto (tgt := 49) hx hb dX1_place_45 (by decide) ?_
          refine lv_iadd hx hb dX1_place_49 ?_
          refine lv_istore_n (lv' := [(2, .int ((nI (cntB (fun o => lx6 (srt M V lim o) (srt M V lim j)) i) + 1) + 1)), (0, .ref h), (1, .int (nI j)), (3, .int (nI i))]) hx hb dX1_place_50 rfl hl (by decide) rfl (fun ls hl => ?_)
          refine lv_iinc (v := (nI (i + 1))) (lv' := [(3, .int (nI (i + 1))), (2, .int ((nI (cntB (fun o => lx6 (srt M V lim o) (srt M V lim j)) i) + 1) + 1)), (0, .ref h), (1, .int (nI j))]) hx hb dX1_place_51 hl (k := 3) rfl (by exact nI_1 _) (by decide) rfl (fun ls hl => ?_)
          refine lv_goto (tgt := 26) hx hb dX1_place_54 (by decide) ?_
          exact ih_i (by exact trivial) ls (q_hl (lv_sub (l' := [(0, .ref h), (1, .int (nI j)), (2, .int ((nI (cntB (fun o => lx6 (srt M V lim o) (srt M V lim j)) i) + 1) + 1)), (3, .int (nI (i + 1)))]) hl [2, 3, 1, 0] rfl) (q_ck (q_ck (q_ce (by exact plc_1 (cmpR_gt c_4)) (q_ck (rfl))))))
      · intro hI_i ls hl
        have hl : lv_has ls 4 [(0, .ref h), (1, .int (nI j)), (2, .int (nI (cntB (fun o => lx6 (srt M V lim o) (srt M V lim j)) n) + 1)), (3, .int (nI n))] := hl
        refine lv_iload_n hx hb dX1_place_26 rfl (lv_at hl 3 rfl) ?_
        refine lv_aload_n hx hb dX1_place_27 rfl (lv_at hl 0 rfl) ?_
        refine va_get (D := (dC, dI)) (ci := 1) (v := .int (nI n)) (C := RX1) (T := TX1) (N := 8) hx hb hts hin hown hK hP 0 rfl rfl 5 (by decide) hf_32 (fun _ h9 => h9) rfl dX1_place_28 ?_
        refine lv_icmp_ge (tgt := 57) hx hb dX1_place_31 (by decide) (fun c_5 => ?_) (fun c_5 => absurd (nI_le (Nat.le_refl n) (by omega)) c_5)
        refine lv_iload_n hx hb dX1_place_57 rfl (lv_at hl 2 rfl) ?_
        exact q_ri hx hb hr hlk (by rw [aPlace, if_pos c_1, nI_clamp (by omega), if_neg c_2]) dX1_place_58
    · skip
      refine lv_iconst (v := 0) hx hb dX1_place_20 (by decide) ?_
      exact q_ri hx hb hr hlk (by rw [aPlace, if_pos c_1, nI_clamp (by omega), if_pos c_2]) dX1_place_21
  · skip
    have c_1 : (jmp (nI n) x) = false := b2i_0 c_1
    refine lv_sipush (v := (-1000)) hx hb dX1_place_8 (by decide) ?_
    exact q_ri hx hb hr hlk (by simp [aPlace, c_1]) dX1_place_11

theorem hdX1_behind : yX1_behind.cls = RX1 ∧ yX1_behind.cls ≠ "java/lang/invoke/MethodHandle" ∧ yX1_behind.cls ≠ "java/lang/invoke/VarHandle" ∧ (parseMethodDescriptor yX1_behind.desc).map (fun d => d.parameters.length) = some 1 := by decide +kernel
set_option maxHeartbeats 4000000 in
set_option maxRecDepth 100000 in
theorem mX1_behind (l : Launch) (dC : Nat → ClassId) (dI : Nat → Nat → Nat) (h qb qj qm qw qt : Nat) (cA : ClassId) (n : Nat) (rec lim : Int32) (fb fj fm fw ft : Nat → Int32) (M : Nat → Nat → Int32) (V : Nat → Nat → Int32) (j : Nat) (hM : ∀ j r, j < 8 → r < 6 → (if nI r < fj j then fm (6 * j + r) else 0) = M j r) (hV : ∀ j r, j < 8 → r < 6 → (if nI r < fj j then fw (6 * j + r) else 100) = V j r) (hT : ft 0 = 1 ∧ ft 1 = 3 ∧ ft 2 = 4 ∧ ft 3 = 6 ∧ ft 4 = 2 ∧ ft 5 = 5) (hn : n ≤ 8) (hB : okM M) (hjn : j < n) : Met l yX1_behind wsX1_behind ({ frames := 5, cells := 0, slots := 0, locals := 118 }) (va_Pc [.ref h, .int (nI j)] (fun U => va_P (dC, dI) vwCl (wY h qb qj qm qw qt cA (nI n) rec lim fb fj fm fw ft) U.heap ∧ va_K (dC, dI) vwCl [(cA, .int)] U)) (QcRead (nI (cntB (fun o => befR (srt M V lim) o j) n))) 0 0 (fun _ => False) := by
  refine Met.ofW (cc := cX1_behind) (maxL := 7) (ret := (some .int)) (by decide) rfl ?_
  intro p e s m args below meth c s₁ B hml hv
  obtain ⟨rfl, hP, hK⟩ := hv
  have hx := B.exec
  have hb := B.bytes
  have hr := B.returns
  have hts := atoms_spec (ws := wsX1_behind) B.pre
  have hown : s.vm.findClass RX1 = some m.cls := findClass_of_methodNamed B.named
  have hlk := B.notSynchronized
  have hin : ∀ w ∈ wsX10, w ∈ wsX1_behind := fun w h => List.mem_cons_of_mem _ (List.mem_append_right _ h)
  have hf_32 := hts (.fieldLink RX1 32 "JumpBoardModel" "jumpers" "I") (by decide +kernel)
  have hl := lv_entry ([.ref h, .int (nI j)]) (n := 7) (Nat.le_of_ble_eq_true rfl)
  rw [lg_entry_eq]
  generalize (lg_sl ([.ref h, .int (nI j)]) ++ List.replicate (7 - (lg_sl ([.ref h, .int (nI j)])).length) Slot.unset).toArray = ls at hl ⊢
  have hl : lv_has ls 7 [(0, .ref h), (1, .int (nI j))] := hl
  refine lv_iconst (v := 0) hx hb dX1_behind_0 (by decide) ?_
  refine lv_istore_n (lv' := [(2, .int 0), (0, .ref h), (1, .int (nI j))]) hx hb dX1_behind_1 rfl hl (by decide) rfl (fun ls hl => ?_)
  refine lv_aload_n hx hb dX1_behind_2 rfl (lv_at hl 1 rfl) ?_
  refine lv_iload_n hx hb dX1_behind_3 rfl (lv_at hl 2 rfl) ?_
  refine q_cv [.int (nI j)] (rest := []) ⟨hx, hb, hml, hown, hts⟩ (mX1_best l dC dI h qb qj qm qw qt cA n rec lim fb fj fm fw ft M V (nI j) hM hV hT (by omega) hB) gX1_behind_X1_best rfl rfl rfl hdX1_best ⟨Nat.le_of_ble_eq_true rfl, Nat.le_of_ble_eq_true rfl⟩ rfl hK hP rfl rfl hl.1 rfl (Nat.le_of_ble_eq_true rfl) dX1_behind_4 ⟨Nat.zero_le _, Nat.zero_le _⟩ ?_
  refine q_top (y := bstU (lgl M V lim j) (M j) 6) (by rw [aBest, if_pos (jmp_nI (by omega) (by omega)), nI_clamp (by omega)]) ?_
  refine q_jn (pj := 15) (v := b2i (!decide (bstU (lgl M V lim j) (M j) 6 = 0))) (rest := []) ?_ (fun J => ?_)
  rotate_left
  · skip
    refine lv_if_eq (tgt := 14) hx hb dX1_behind_7 (by decide) (fun c_1 => ?_) (fun c_1 => ?_)
    · skip
      refine lv_iconst (v := 0) hx hb dX1_behind_14 (by decide) ?_
      exact q_top (by simp [b2i, c_1]) J
    · skip
      refine lv_iconst (v := 1) hx hb dX1_behind_10 (by decide) ?_
      refine lv_goto (tgt := 15) hx hb dX1_behind_11 (by decide) ?_
      exact q_top (by simp [b2i, c_1]) J
  refine lv_istore_n (lv' := [(3, .int (b2i (!decide (bstU (lgl M V lim j) (M j) 6 = 0)))), (2, .int 0), (0, .ref h), (1, .int (nI j))]) hx hb dX1_behind_15 rfl hl (by decide) rfl (fun ls hl => ?_)
  refine lv_iconst (v := 0) hx hb dX1_behind_16 (by decide) ?_
  refine lv_istore (lv' := [(4, .int 0), (3, .int (b2i (!decide (bstU (lgl M V lim j) (M j) 6 = 0)))), (2, .int 0), (0, .ref h), (1, .int (nI j))]) hx hb dX1_behind_17 hl (by decide) rfl (fun ls hl => ?_)
  refine q_lp (head := 19) (n) (fun i => [(0, .ref h), (1, .int (nI j)), (2, .int (nI (cntB (fun o => befR (srt M V lim) o j) i))), (3, .int (b2i (!decide (bstU (lgl M V lim j) (M j) 6 = 0)))), (4, .int (nI i))]) (fun i => True) (0) (by omega) (trivial) (q_hl (lv_sub (l' := [(0, .ref h), (1, .int (nI j)), (2, .int 0), (3, .int (b2i (!decide (bstU (lgl M V lim j) (M j) 6 = 0)))), (4, .int 0)]) hl [3, 4, 2, 1, 0] rfl) (q_ck (q_ck (q_ce (by rfl) (q_ck (q_ce (by rfl) (rfl))))))) ?_ ?_
  · intro i hi_i hI_i ih_i ls hl
    have hl : lv_has ls 7 [(0, .ref h), (1, .int (nI j)), (2, .int (nI (cntB (fun o => befR (srt M V lim) o j) i))), (3, .int (b2i (!decide (bstU (lgl M V lim j) (M j) 6 = 0)))), (4, .int (nI i))] := hl
    refine lv_iload hx hb dX1_behind_19 (lv_at hl 4 rfl) ?_
    refine lv_aload_n hx hb dX1_behind_21 rfl (lv_at hl 0 rfl) ?_
    refine va_get (D := (dC, dI)) (ci := 1) (v := .int (nI n)) (C := RX1) (T := TX1) (N := 8) hx hb hts hin hown hK hP 0 rfl rfl 5 (by decide) hf_32 (fun _ h9 => h9) rfl dX1_behind_22 ?_
    refine lv_icmp_ge (tgt := 113) hx hb dX1_behind_25 (by decide) (fun c_2 => absurd c_2 (nI_ge hi_i (by omega))) (fun c_2 => ?_)
    refine lv_aload_n hx hb dX1_behind_28 rfl (lv_at hl 0 rfl) ?_
    refine lv_iload hx hb dX1_behind_29 (lv_at hl 4 rfl) ?_
    refine q_cv [.int (nI i)] (rest := []) ⟨hx, hb, hml, hown, hts⟩ (mX1_best l dC dI h qb qj qm qw qt cA n rec lim fb fj fm fw ft M V (nI i) hM hV hT (by omega) hB) gX1_behind_X1_best rfl rfl rfl hdX1_best ⟨Nat.le_of_ble_eq_true rfl, Nat.le_of_ble_eq_true rfl⟩ rfl hK hP rfl rfl hl.1 rfl (Nat.le_of_ble_eq_true rfl) dX1_behind_31 ⟨Nat.zero_le _, Nat.zero_le _⟩ ?_
    refine q_top (y := bstU (lgl M V lim i) (M i) 6) (by rw [aBest, if_pos (jmp_nI (by omega) (by omega)), nI_clamp (by omega)]) ?_
    refine q_jn (pj := 42) (v := b2i (!decide (bstU (lgl M V lim i) (M i) 6 = 0))) (rest := []) ?_ (fun J => ?_)
    rotate_left
    · skip
      refine lv_if_eq (tgt := 41) hx hb dX1_behind_34 (by decide) (fun c_3 => ?_) (fun c_3 => ?_)
      · skip
        refine lv_iconst (v := 0) hx hb dX1_behind_41 (by decide) ?_
        exact q_top (by simp [b2i, c_3]) J
      · skip
        refine lv_iconst (v := 1) hx hb dX1_behind_37 (by decide) ?_
        refine lv_goto (tgt := 42) hx hb dX1_behind_38 (by decide) ?_
        exact q_top (by simp [b2i, c_3]) J
    refine lv_istore (lv' := [(5, .int (b2i (!decide (bstU (lgl M V lim i) (M i) 6 = 0)))), (0, .ref h), (1, .int (nI j)), (2, .int (nI (cntB (fun o => befR (srt M V lim) o j) i))), (3, .int (b2i (!decide (bstU (lgl M V lim j) (M j) 6 = 0)))), (4, .int (nI i))]) hx hb dX1_behind_42 hl (by decide) rfl (fun ls hl => ?_)
    refine lv_iload_n hx hb dX1_behind_44 rfl (lv_at hl 4 rfl) ?_
    refine q_jn (pj := 81) (v := cmpR M V lim j i) (rest := []) ?_ (fun J => ?_)
    rotate_left
    · skip
      refine lv_if_eq (tgt := 63) hx hb dX1_behind_45 (by decide) (fun c_4 => ?_) (fun c_4 => ?_)
      · skip
        have c_4 : (!decide (bstU (lgl M V lim j) (M j) 6 = 0)) = false := b2i_0 c_4
        refine lv_iload_n hx hb dX1_behind_63 rfl (lv_at hl 4 rfl) ?_
        refine lv_if_eq (tgt := 71) hx hb dX1_behind_64 (by decide) (fun c_5 => ?_) (fun c_5 => ?_)
        · skip
          have c_5 : (!decide (bstU (lgl M V lim j) (M j) 6 = 0)) = false := b2i_0 c_5
          refine lv_iload hx hb dX1_behind_71 (lv_at hl 0 rfl) ?_
          refine lv_if_eq (tgt := 80) hx hb dX1_behind_73 (by decide) (fun c_6 => ?_) (fun c_6 => ?_)
          · skip
            have c_6 : (!decide (bstU (lgl M V lim i) (M i) 6 = 0)) = false := b2i_0 c_6
            refine lv_iconst (v := 0) hx hb dX1_behind_80 (by decide) ?_
            exact q_top (by exact (cmp_b3 hB (by omega) (by omega) (bzz c_4) (bzz c_6)).symm) J
          · skip
            have c_6 : (!decide (bstU (lgl M V lim i) (M i) 6 = 0)) = true := b2i_n c_6
            refine lv_iconst (v := (-1)) hx hb dX1_behind_76 (by decide) ?_
            refine lv_goto (tgt := 81) hx hb dX1_behind_77 (by decide) ?_
            exact q_top (by exact (cmp_b2 hB (by omega) (by omega) (bzz c_4) (bnz c_6)).symm) J
        · skip
          have c_5 : (!decide (bstU (lgl M V lim j) (M j) 6 = 0)) = true := b2i_n c_5
          refine lv_iconst (v := 1) hx hb dX1_behind_67 (by decide) ?_
          refine lv_goto (tgt := 81) hx hb dX1_behind_68 (by decide) ?_
          exact q_top (by exact absurd (c_5.symm.trans c_4) (by decide)) J
      · skip
        have c_4 : (!decide (bstU (lgl M V lim j) (M j) 6 = 0)) = true := b2i_n c_4
        refine lv_iload hx hb dX1_behind_48 (lv_at hl 0 rfl) ?_
        refine lv_if_eq (tgt := 63) hx hb dX1_behind_50 (by decide) (fun c_7 => ?_) (fun c_7 => ?_)
        · skip
          have c_7 : (!decide (bstU (lgl M V lim i) (M i) 6 = 0)) = false := b2i_0 c_7
          refine lv_iload_n hx hb dX1_behind_63 rfl (lv_at hl 4 rfl) ?_
          refine lv_if_eq (tgt := 71) hx hb dX1_behind_64 (by decide) (fun c_8 => ?_) (fun c_8 => ?_)
          · skip
            have c_8 : (!decide (bstU (lgl M V lim j) (M j) 6 = 0)) = false := b2i_0 c_8
            refine lv_iload hx hb dX1_behind_71 (lv_at hl 0 rfl) ?_
            refine lv_if_eq (tgt := 80) hx hb dX1_behind_73 (by decide) (fun c_9 => ?_) (fun c_9 => ?_)
            · skip
              have c_9 : (!decide (bstU (lgl M V lim i) (M i) 6 = 0)) = false := b2i_0 c_9
              refine lv_iconst (v := 0) hx hb dX1_behind_80 (by decide) ?_
              exact q_top (by exact absurd (c_4.symm.trans c_8) (by decide)) J
            · skip
              have c_9 : (!decide (bstU (lgl M V lim i) (M i) 6 = 0)) = true := b2i_n c_9
              refine lv_iconst (v := (-1)) hx hb dX1_behind_76 (by decide) ?_
              refine lv_goto (tgt := 81) hx hb dX1_behind_77 (by decide) ?_
              exact q_top (by exact absurd (c_4.symm.trans c_8) (by decide)) J
          · skip
            have c_8 : (!decide (bstU (lgl M V lim j) (M j) 6 = 0)) = true := b2i_n c_8
            refine lv_iconst (v := 1) hx hb dX1_behind_67 (by decide) ?_
            refine lv_goto (tgt := 81) hx hb dX1_behind_68 (by decide) ?_
            exact q_top (by exact (cmp_b1 hB (by omega) (by omega) (bnz c_4) (bzz c_7)).symm) J
        · skip
          have c_7 : (!decide (bstU (lgl M V lim i) (M i) 6 = 0)) = true := b2i_n c_7
          refine lv_aload_n hx hb dX1_behind_53 rfl (lv_at hl 1 rfl) ?_
          refine lv_iload_n hx hb dX1_behind_54 rfl (lv_at hl 2 rfl) ?_
          refine lv_iload hx hb dX1_behind_55 (lv_at hl 5 rfl) ?_
          refine q_cv [.int (nI j), .int (nI i)] (rest := []) ⟨hx, hb, hml, hown, hts⟩ (mX1_compared l dC dI h qb qj qm qw qt cA n rec lim fb fj fm fw ft M V j i hM hV hT hB (by omega) (by omega)) gX1_behind_X1_compared rfl rfl rfl hdX1_compared ⟨Nat.le_of_ble_eq_true rfl, Nat.le_of_ble_eq_true rfl⟩ rfl hK hP rfl rfl hl.1 rfl (Nat.le_of_ble_eq_true rfl) dX1_behind_57 ⟨Nat.zero_le _, Nat.zero_le _⟩ ?_
          refine lv_goto (tgt := 81) hx hb dX1_behind_60 (by decide) ?_
          exact J
    refine lv_istore (lv' := [(6, .int (cmpR M V lim j i)), (5, .int (b2i (!decide (bstU (lgl M V lim i) (M i) 6 = 0)))), (0, .ref h), (1, .int (nI j)), (2, .int (nI (cntB (fun o => befR (srt M V lim) o j) i))), (3, .int (b2i (!decide (bstU (lgl M V lim j) (M j) 6 = 0)))), (4, .int (nI i))]) hx hb dX1_behind_81 hl (by decide) rfl (fun ls hl => ?_)
    refine lv_iload_n hx hb dX1_behind_83 rfl (lv_at hl 4 rfl) ?_
    refine lv_iload hx hb dX1_behind_84 (lv_at hl 0 rfl) ?_
    refine q_jn (pj := 105) (v := ifz (befR (srt M V lim) i j) 1) (rest := [.int (nI (cntB (fun o => befR (srt M V lim) o j) i))]) ?_ (fun J => ?_)
    rotate_left
    · skip
      refine lv_if_gt (tgt := 100) hx hb dX1_behind_86 (by decide) (fun c_10 => ?_) (fun c_10 => ?_)
      · skip
        refine lv_iconst (v := 1) hx hb dX1_behind_100 (by decide) ?_
        refine lv_goto (tgt := 105) hx hb dX1_behind_101 (by decide) ?_
        exact q_top (by exact beh_1 c_10) J
      · skip
        refine lv_iload hx hb dX1_behind_89 (lv_at hl 0 rfl) ?_
        refine lv_if_ne (tgt := 104) hx hb dX1_behind_91 (by decide) (fun c_11 => ?_) (fun c_11 => ?_)
        · skip
          refine lv_iconst (v := 0) hx hb dX1_behind_104 (by decide) ?_
          exact q_top (by exact beh_2 c_10 c_11) J
        · skip
          refine lv_iload hx hb dX1_behind_94 (lv_at hl 6 rfl) ?_
          refine lv_iload_n hx hb dX1_behind_96 rfl (lv_at hl 3 rfl) ?_
          refine lv_icmp_ge (tgt := 104) hx hb dX1_behind_97 (by decide) (fun c_12 => ?_) (fun c_12 => ?_)
          · skip
            refine lv_iconst (v := 0) hx hb dX1_behind_104 (by decide) ?_
            exact q_top (by exact beh_3 (by omega) (by omega) c_11 c_12) J
          · skip
            refine lv_iconst (v := 1) hx hb dX1_behind_100 (by decide) ?_
            refine lv_goto (tgt := 105) hx hb dX1_behind_101 (by decide) ?_
            exact q_top (by exact beh_4 (by omega) (by omega) c_11 c_12) J
    refine lv_iadd hx hb dX1_behind_105 ?_
    refine lv_istore_n (lv' := [(2, .int ((nI (cntB (fun o => befR (srt M V lim) o j) i)) + (ifz (befR (srt M V lim) i j) 1))), (6, .int (cmpR M V lim j i)), (5, .int (b2i (!decide (bstU (lgl M V lim i) (M i) 6 = 0)))), (0, .ref h), (1, .int (nI j)), (3, .int (b2i (!decide (bstU (lgl M V lim j) (M j) 6 = 0)))), (4, .int (nI i))]) hx hb dX1_behind_106 rfl hl (by decide) rfl (fun ls hl => ?_)
    refine lv_iinc (v := (nI (i + 1))) (lv' := [(4, .int (nI (i + 1))), (2, .int ((nI (cntB (fun o => befR (srt M V lim) o j) i)) + (ifz (befR (srt M V lim) i j) 1))), (6, .int (cmpR M V lim j i)), (5, .int (b2i (!decide (bstU (lgl M V lim i) (M i) 6 = 0)))), (0, .ref h), (1, .int (nI j)), (3, .int (b2i (!decide (bstU (lgl M V lim j) (M j) 6 = 0))))]) hx hb dX1_behind_107 hl (k := 6) rfl (by exact nI_1 _) (by decide) rfl (fun ls hl => ?_)
    refine lv_goto (tgt := 19) hx hb dX1_behind_110 (by decide) ?_
    exact ih_i (by exact trivial) ls (q_hl (lv_sub (l' := [(0, .ref h), (1, .int (nI j)), (2, .int ((nI (cntB (fun o => befR (srt M V lim) o j) i)) + (ifz (befR (srt M V lim) i j) 1))), (3, .int (b2i (!decide (bstU (lgl M V lim j) (M j) 6 = 0)))), (4, .int (nI (i + 1)))]) hl [4, 5, 1, 6, 0] rfl) (q_ck (q_ck (q_ce (by rw [cntB]; unfold ifz; split <;> simp [nI_1]) (q_ck (q_ck (rfl)))))))
  · intro hI_i ls hl
    have hl : lv_has ls 7 [(0, .ref h), (1, .int (nI j)), (2, .int (nI (cntB (fun o => befR (srt M V lim) o j) n))), (3, .int (b2i (!decide (bstU (lgl M V lim j) (M j) 6 = 0)))), (4, .int (nI n))] := hl
    refine lv_iload hx hb dX1_behind_19 (lv_at hl 4 rfl) ?_
    refine lv_aload_n hx hb dX1_behind_21 rfl (lv_at hl 0 rfl) ?_
    refine va_get (D := (dC, dI)) (ci := 1) (v := .int (nI n)) (C := RX1) (T := TX1) (N := 8) hx hb hts hin hown hK hP 0 rfl rfl 5 (by decide) hf_32 (fun _ h9 => h9) rfl dX1_behind_22 ?_
    refine lv_icmp_ge (tgt := 113) hx hb dX1_behind_25 (by decide) (fun c_13 => ?_) (fun c_13 => absurd (nI_le (Nat.le_refl n) (by omega)) c_13)
    refine lv_iload_n hx hb dX1_behind_113 rfl (lv_at hl 2 rfl) ?_
    exact q_ri hx hb hr hlk (by rfl) dX1_behind_114

theorem hdX1_order : yX1_order.cls = RX1 ∧ yX1_order.cls ≠ "java/lang/invoke/MethodHandle" ∧ yX1_order.cls ≠ "java/lang/invoke/VarHandle" ∧ (parseMethodDescriptor yX1_order.desc).map (fun d => d.parameters.length) = some 1 := by decide +kernel
set_option maxHeartbeats 4000000 in
set_option maxRecDepth 100000 in
theorem mX1_order (l : Launch) (dC : Nat → ClassId) (dI : Nat → Nat → Nat) (h qb qj qm qw qt : Nat) (cA : ClassId) (n : Nat) (rec lim : Int32) (fb fj fm fw ft : Nat → Int32) (M : Nat → Nat → Int32) (V : Nat → Nat → Int32) (k : Int32) (hM : ∀ j r, j < 8 → r < 6 → (if nI r < fj j then fm (6 * j + r) else 0) = M j r) (hV : ∀ j r, j < 8 → r < 6 → (if nI r < fj j then fw (6 * j + r) else 100) = V j r) (hT : ft 0 = 1 ∧ ft 1 = 3 ∧ ft 2 = 4 ∧ ft 3 = 6 ∧ ft 4 = 2 ∧ ft 5 = 5) (hn : n ≤ 8) (hB : okM M) : Met l yX1_order wsX1_order ({ frames := 6, cells := 0, slots := 0, locals := 144 }) (va_Pc [.ref h, .int k] (fun U => va_P (dC, dI) vwCl (wY h qb qj qm qw qt cA (nI n) rec lim fb fj fm fw ft) U.heap ∧ va_K (dC, dI) vwCl [(cA, .int)] U)) (QcRead (aOrder (-1000) M V lim n k)) 0 0 (fun _ => False) := by
  refine Met.ofW (cc := cX1_order) (maxL := 4) (ret := (some .int)) (by decide) rfl ?_
  intro p e s m args below meth c s₁ B hml hv
  obtain ⟨rfl, hP, hK⟩ := hv
  have hx := B.exec
  have hb := B.bytes
  have hr := B.returns
  have hts := atoms_spec (ws := wsX1_order) B.pre
  have hown : s.vm.findClass RX1 = some m.cls := findClass_of_methodNamed B.named
  have hlk := B.notSynchronized
  have hin : ∀ w ∈ wsX10, w ∈ wsX1_order := fun w h => List.mem_cons_of_mem _ (List.mem_append_right _ h)
  have hf_32 := hts (.fieldLink RX1 32 "JumpBoardModel" "jumpers" "I") (by decide +kernel)
  have hl := lv_entry ([.ref h, .int k]) (n := 4) (Nat.le_of_ble_eq_true rfl)
  rw [lg_entry_eq]
  generalize (lg_sl ([.ref h, .int k]) ++ List.replicate (4 - (lg_sl ([.ref h, .int k])).length) Slot.unset).toArray = ls at hl ⊢
  have hl : lv_has ls 4 [(0, .ref h), (1, .int k)] := hl
  refine lv_iload_n hx hb dX1_order_0 rfl (lv_at hl 1 rfl) ?_
  refine lv_iconst (v := 0) hx hb dX1_order_1 (by decide) ?_
  refine lv_aload_n hx hb dX1_order_2 rfl (lv_at hl 0 rfl) ?_
  refine va_get (D := (dC, dI)) (ci := 1) (v := .int (nI n)) (C := RX1) (T := TX1) (N := 8) hx hb hts hin hown hK hP 0 rfl rfl 5 (by decide) hf_32 (fun _ h9 => h9) rfl dX1_order_3 ?_
  refine lv_iconst (v := 1) hx hb dX1_order_6 (by decide) ?_
  refine lv_isub hx hb dX1_order_7 ?_
  refine q_cs [.int k, .int 0, .int ((nI n) - 1)] (rest := []) ⟨hx, hb, hml, hown, hts⟩ (mX1_isIn l k 0 ((nI n) - 1)) gX1_order_X1_isIn rfl rfl rfl hdX1_isIn ⟨Nat.le_of_ble_eq_true rfl, Nat.le_of_ble_eq_true rfl⟩ rfl hl.1 rfl (Nat.le_of_ble_eq_true rfl) dX1_order_8 ⟨Nat.zero_le _, Nat.zero_le _⟩ ?_
  refine lv_if_ne (tgt := 18) hx hb dX1_order_11 (by decide) (fun c_1 => ?_) (fun c_1 => ?_)
  · skip
    have c_1 : (inR k 0 ((nI n) - 1)) = true := b2i_n c_1
    refine lv_sipush (v := (-1000)) hx hb dX1_order_18 (by decide) ?_
    refine lv_istore_n (lv' := [(2, .int (-1000)), (0, .ref h), (1, .int k)]) hx hb dX1_order_21 rfl hl (by decide) rfl (fun ls hl => ?_)
    refine lv_iconst (v := 0) hx hb dX1_order_22 (by decide) ?_
    refine lv_istore_n (lv' := [(3, .int 0), (2, .int (-1000)), (0, .ref h), (1, .int k)]) hx hb dX1_order_23 rfl hl (by decide) rfl (fun ls hl => ?_)
    refine q_lp (head := 24) (n) (fun i => [(0, .ref h), (1, .int k), (2, .int (fndI (-1000) (fun j => nI (cntB (fun o => befR (srt M V lim) o j) n)) k i)), (3, .int (nI i))]) (fun i => True) (0) (by omega) (trivial) (q_hl (lv_sub (l' := [(0, .ref h), (1, .int k), (2, .int (-1000)), (3, .int 0)]) hl [2, 3, 1, 0] rfl) (q_ck (q_ck (q_ce (by rfl) (q_ce (by rfl) (rfl)))))) ?_ ?_
    · intro i hi_i hI_i ih_i ls hl
      have hl : lv_has ls 4 [(0, .ref h), (1, .int k), (2, .int (fndI (-1000) (fun j => nI (cntB (fun o => befR (srt M V lim) o j) n)) k i)), (3, .int (nI i))] := hl
      refine lv_iload_n hx hb dX1_order_24 rfl (lv_at hl 3 rfl) ?_
      refine lv_aload_n hx hb dX1_order_25 rfl (lv_at hl 0 rfl) ?_
      refine va_get (D := (dC, dI)) (ci := 1) (v := .int (nI n)) (C := RX1) (T := TX1) (N := 8) hx hb hts hin hown hK hP 0 rfl rfl 5 (by decide) hf_32 (fun _ h9 => h9) rfl dX1_order_26 ?_
      refine lv_icmp_ge (tgt := 53) hx hb dX1_order_29 (by decide) (fun c_2 => absurd c_2 (nI_ge hi_i (by omega))) (fun c_2 => ?_)
      refine lv_aload_n hx hb dX1_order_32 rfl (lv_at hl 0 rfl) ?_
      refine lv_iload_n hx hb dX1_order_33 rfl (lv_at hl 3 rfl) ?_
      refine q_cv [.int (nI i)] (rest := []) ⟨hx, hb, hml, hown, hts⟩ (mX1_behind l dC dI h qb qj qm qw qt cA n rec lim fb fj fm fw ft M V i hM hV hT (by omega) hB (by omega)) gX1_order_X1_behind rfl rfl rfl hdX1_behind ⟨Nat.le_of_ble_eq_true rfl, Nat.le_of_ble_eq_true rfl⟩ rfl hK hP rfl rfl hl.1 rfl (Nat.le_of_ble_eq_true rfl) dX1_order_34 ⟨Nat.zero_le _, Nat.zero_le _⟩ ?_
      refine lv_iload_n hx hb dX1_order_37 rfl (lv_at hl 1 rfl) ?_
      refine lv_icmp_ne (tgt := 45) hx hb dX1_order_38 (by decide) (fun c_3 => ?_) (fun c_3 => ?_)
      · skip
        refine lv_iload_n hx hb dX1_order_45 rfl (lv_at hl 2 rfl) ?_
        refine lv_istore_n (lv' := [(2, .int (fndI (-1000) (fun j => nI (cntB (fun o => befR (srt M V lim) o j) n)) k i)), (0, .ref h), (1, .int k), (3, .int (nI i))]) hx hb dX1_order_46 rfl hl (by decide) rfl (fun ls hl => ?_)
        refine lv_iinc (v := (nI (i + 1))) (lv' := [(3, .int (nI (i + 1))), (2, .int (fndI (-1000) (fun j => nI (cntB (fun o => befR (srt M V lim) o j) n)) k i)), (0, .ref h), (1, .int k)]) hx hb dX1_order_47 hl (k := 3) rfl (by exact nI_1 _) (by decide) rfl (fun ls hl => ?_)
        refine lv_goto (tgt := 24) hx hb dX1_order_50 (by decide) ?_
        exact ih_i (by exact trivial) ls (q_hl (lv_sub (l' := [(0, .ref h), (1, .int k), (2, .int (fndI (-1000) (fun j => nI (cntB (fun o => befR (srt M V lim) o j) n)) k i)), (3, .int (nI (i + 1)))]) hl [2, 3, 1, 0] rfl) (q_ck (q_ck (q_ce (by simp [fndI, c_3]) (q_ck (rfl))))))
      · skip
        refine lv_iload_n hx hb dX1_order_41 rfl (lv_at hl 3 rfl) ?_
        refine lv_goto (tgt := 46) hx hb dX1_order_42 (by decide) ?_
        refine lv_istore_n (lv' := [(2, .int (nI i)), (0, .ref h), (1, .int k), (3, .int (nI i))]) hx hb dX1_order_46 rfl hl (by decide) rfl (fun ls hl => ?_)
        refine lv_iinc (v := (nI (i + 1))) (lv' := [(3, .int (nI (i + 1))), (2, .int (nI i)), (0, .ref h), (1, .int k)]) hx hb dX1_order_47 hl (k := 3) rfl (by exact nI_1 _) (by decide) rfl (fun ls hl => ?_)
        refine lv_goto (tgt := 24) hx hb dX1_order_50 (by decide) ?_
        exact ih_i (by exact trivial) ls (q_hl (lv_sub (l' := [(0, .ref h), (1, .int k), (2, .int (nI i)), (3, .int (nI (i + 1)))]) hl [2, 3, 1, 0] rfl) (q_ck (q_ck (q_ce (by simp [fndI, c_3]) (q_ck (rfl))))))
    · intro hI_i ls hl
      have hl : lv_has ls 4 [(0, .ref h), (1, .int k), (2, .int (fndI (-1000) (fun j => nI (cntB (fun o => befR (srt M V lim) o j) n)) k n)), (3, .int (nI n))] := hl
      refine lv_iload_n hx hb dX1_order_24 rfl (lv_at hl 3 rfl) ?_
      refine lv_aload_n hx hb dX1_order_25 rfl (lv_at hl 0 rfl) ?_
      refine va_get (D := (dC, dI)) (ci := 1) (v := .int (nI n)) (C := RX1) (T := TX1) (N := 8) hx hb hts hin hown hK hP 0 rfl rfl 5 (by decide) hf_32 (fun _ h9 => h9) rfl dX1_order_26 ?_
      refine lv_icmp_ge (tgt := 53) hx hb dX1_order_29 (by decide) (fun c_4 => ?_) (fun c_4 => absurd (nI_le (Nat.le_refl n) (by omega)) c_4)
      refine lv_iload_n hx hb dX1_order_53 rfl (lv_at hl 2 rfl) ?_
      exact q_ri hx hb hr hlk (by rw [inR_jmp hn] at c_1; simp [aOrder, c_1]) dX1_order_54
  · skip
    have c_1 : (inR k 0 ((nI n) - 1)) = false := b2i_0 c_1
    refine lv_sipush (v := (-1000)) hx hb dX1_order_14 (by decide) ?_
    exact q_ri hx hb hr hlk (by rw [inR_jmp hn] at c_1; simp [aOrder, c_1]) dX1_order_17
