theorem b2i_dle {x y : Int32} (h : x ≤ y) : b2i (decide (y < x)) = 0 := by
  rw [decide_eq_false (Int32.not_lt.mpr h)]; rfl
theorem b2i_dgt {x y : Int32} (h : ¬ x ≤ y) : b2i (decide (y < x)) = 1 := by
  rw [decide_eq_true (Int32.not_le.mp h)]; rfl
theorem tOut5 {x : Int32} (h0 : ¬ x = 0) (h1 : ¬ x = 1) (h2 : ¬ x = 2) (h3 : ¬ x = 3) (h4 : ¬ x = 4) : x.toInt < 0 ∨ 4 < x.toInt := by
  have a0 := lv_neT (a := 0) h0 rfl
  have a1 := lv_neT (a := 1) h1 rfl
  have a2 := lv_neT (a := 2) h2 rfl
  have a3 := lv_neT (a := 3) h3 rfl
  have a4 := lv_neT (a := 4) h4 rfl
  omega
theorem anyB_of {q : Nat → Bool} {i n : Nat} (h : i < n) (hq : q i = true) : anyB q n = true := by
  induction n with
  | zero => omega
  | succ n ih =>
    rcases Nat.lt_or_ge i n with a | a
    · simp [anyB, ih a]
    · have : i = n := by omega
      subst this
      simp [anyB, hq]
theorem lxF_eq {ra rb : Nat → Int32} {i : Nat} (h : i < 6) : lxF ra rb (6 - i) i = if ra i = rb i then lxF ra rb (6 - (i + 1)) (i + 1) else decide (rb i < ra i) := by
  rw [show 6 - i = (6 - (i + 1)) + 1 by omega]
  rfl
theorem hdX0_isRound : yX0_isRound.cls ≠ "java/lang/invoke/MethodHandle" ∧ yX0_isRound.cls ≠ "java/lang/invoke/VarHandle" ∧ (parseMethodDescriptor yX0_isRound.desc).map (fun d => d.parameters.length) = some 1 := by decide +kernel
set_option maxHeartbeats 4000000 in
set_option maxRecDepth 100000 in
theorem mX0_isRound (l : Launch) (x : Int32) : Met l yX0_isRound wsX0_isRound ({ frames := 0, cells := 0, slots := 0, locals := 0 }) (va_Pc [.int x] (fun _ => True)) (QcRead (b2i (rnd x))) 0 0 (fun _ => False) := by
  refine Met.ofW (cc := cX0_isRound) (maxL := 1) (ret := (some .boolean)) (by decide) rfl ?_
  intro p e s m args below meth c s₁ B hml hv
  obtain ⟨rfl, -⟩ := hv
  have hx := B.exec
  have hb := B.bytes
  have hr := B.returns
  have hts := atoms_spec (ws := wsX0_isRound) B.pre
  have hown : s.vm.findClass RX0 = some m.cls := findClass_of_methodNamed B.named
  have hlk := B.notSynchronized
  have hl := lv_entry ([.int x]) (n := 1) (Nat.le_of_ble_eq_true rfl)
  rw [lg_entry_eq]
  generalize (lg_sl ([.int x]) ++ List.replicate (1 - (lg_sl ([.int x])).length) Slot.unset).toArray = ls at hl ⊢
  have hl : lv_has ls 1 [(0, .int x)] := hl
  refine lv_iload_n hx hb dX0_isRound_0 rfl (lv_at hl 0 rfl) ?_
  refine lv_if_lt (tgt := 14) hx hb dX0_isRound_1 (by decide) (fun c_1 => ?_) (fun c_1 => ?_)
  · skip
    refine lv_iconst (v := 0) hx hb dX0_isRound_14 (by decide) ?_
    exact q_rb hx hb hr hlk (by simp [rnd, b2i, c_1]) dX0_isRound_15
  · skip
    refine lv_iload_n hx hb dX0_isRound_4 rfl (lv_at hl 0 rfl) ?_
    refine lv_bipush (v := 6) hx hb dX0_isRound_5 (by decide) ?_
    refine lv_icmp_ge (tgt := 14) hx hb dX0_isRound_7 (by decide) (fun c_2 => ?_) (fun c_2 => ?_)
    · skip
      refine lv_iconst (v := 0) hx hb dX0_isRound_14 (by decide) ?_
      exact q_rb hx hb hr hlk (by simp [rnd, b2i, c_1, c_2]) dX0_isRound_15
    · skip
      refine lv_iconst (v := 1) hx hb dX0_isRound_10 (by decide) ?_
      refine lv_goto (tgt := 15) hx hb dX0_isRound_11 (by decide) ?_
      exact q_rb hx hb hr hlk (by simp [rnd, b2i, c_1, c_2]) dX0_isRound_15

theorem hdX0_isWhat : yX0_isWhat.cls ≠ "java/lang/invoke/MethodHandle" ∧ yX0_isWhat.cls ≠ "java/lang/invoke/VarHandle" ∧ (parseMethodDescriptor yX0_isWhat.desc).map (fun d => d.parameters.length) = some 1 := by decide +kernel
set_option maxHeartbeats 4000000 in
set_option maxRecDepth 100000 in
theorem mX0_isWhat (l : Launch) (x : Int32) : Met l yX0_isWhat wsX0_isWhat ({ frames := 0, cells := 0, slots := 0, locals := 0 }) (va_Pc [.int x] (fun _ => True)) (QcRead (b2i (wht x))) 0 0 (fun _ => False) := by
  refine Met.ofW (cc := cX0_isWhat) (maxL := 1) (ret := (some .boolean)) (by decide) rfl ?_
  intro p e s m args below meth c s₁ B hml hv
  obtain ⟨rfl, -⟩ := hv
  have hx := B.exec
  have hb := B.bytes
  have hr := B.returns
  have hts := atoms_spec (ws := wsX0_isWhat) B.pre
  have hown : s.vm.findClass RX0 = some m.cls := findClass_of_methodNamed B.named
  have hlk := B.notSynchronized
  have hl := lv_entry ([.int x]) (n := 1) (Nat.le_of_ble_eq_true rfl)
  rw [lg_entry_eq]
  generalize (lg_sl ([.int x]) ++ List.replicate (1 - (lg_sl ([.int x])).length) Slot.unset).toArray = ls at hl ⊢
  have hl : lv_has ls 1 [(0, .int x)] := hl
  refine lv_iload_n hx hb dX0_isWhat_0 rfl (lv_at hl 0 rfl) ?_
  refine lv_if_eq (tgt := 9) hx hb dX0_isWhat_1 (by decide) (fun c_1 => ?_) (fun c_1 => ?_)
  · skip
    refine lv_iconst (v := 1) hx hb dX0_isWhat_9 (by decide) ?_
    refine lv_goto (tgt := 14) hx hb dX0_isWhat_10 (by decide) ?_
    exact q_rb hx hb hr hlk (by simp [wht, b2i, c_1]) dX0_isWhat_14
  · skip
    refine lv_iload_n hx hb dX0_isWhat_4 rfl (lv_at hl 0 rfl) ?_
    refine lv_iconst (v := 1) hx hb dX0_isWhat_5 (by decide) ?_
    refine lv_icmp_ne (tgt := 13) hx hb dX0_isWhat_6 (by decide) (fun c_2 => ?_) (fun c_2 => ?_)
    · skip
      refine lv_iconst (v := 0) hx hb dX0_isWhat_13 (by decide) ?_
      exact q_rb hx hb hr hlk (by simp [wht, b2i, c_1, c_2]) dX0_isWhat_14
    · skip
      refine lv_iconst (v := 1) hx hb dX0_isWhat_9 (by decide) ?_
      refine lv_goto (tgt := 14) hx hb dX0_isWhat_10 (by decide) ?_
      exact q_rb hx hb hr hlk (by simp [wht, b2i, c_1, c_2]) dX0_isWhat_14

theorem hdX0_isHow : yX0_isHow.cls ≠ "java/lang/invoke/MethodHandle" ∧ yX0_isHow.cls ≠ "java/lang/invoke/VarHandle" ∧ (parseMethodDescriptor yX0_isHow.desc).map (fun d => d.parameters.length) = some 1 := by decide +kernel
set_option maxHeartbeats 4000000 in
set_option maxRecDepth 100000 in
theorem mX0_isHow (l : Launch) (x : Int32) : Met l yX0_isHow wsX0_isHow ({ frames := 0, cells := 0, slots := 0, locals := 0 }) (va_Pc [.int x] (fun _ => True)) (QcRead (b2i (hwo x))) 0 0 (fun _ => False) := by
  refine Met.ofW (cc := cX0_isHow) (maxL := 1) (ret := (some .boolean)) (by decide) rfl ?_
  intro p e s m args below meth c s₁ B hml hv
  obtain ⟨rfl, -⟩ := hv
  have hx := B.exec
  have hb := B.bytes
  have hr := B.returns
  have hts := atoms_spec (ws := wsX0_isHow) B.pre
  have hown : s.vm.findClass RX0 = some m.cls := findClass_of_methodNamed B.named
  have hlk := B.notSynchronized
  have hl := lv_entry ([.int x]) (n := 1) (Nat.le_of_ble_eq_true rfl)
  rw [lg_entry_eq]
  generalize (lg_sl ([.int x]) ++ List.replicate (1 - (lg_sl ([.int x])).length) Slot.unset).toArray = ls at hl ⊢
  have hl : lv_has ls 1 [(0, .int x)] := hl
  refine lv_iload_n hx hb dX0_isHow_0 rfl (lv_at hl 0 rfl) ?_
  refine lv_if_lt (tgt := 13) hx hb dX0_isHow_1 (by decide) (fun c_1 => ?_) (fun c_1 => ?_)
  · skip
    refine lv_iconst (v := 0) hx hb dX0_isHow_13 (by decide) ?_
    exact q_rb hx hb hr hlk (by simp [hwo, b2i, c_1]) dX0_isHow_14
  · skip
    refine lv_iload_n hx hb dX0_isHow_4 rfl (lv_at hl 0 rfl) ?_
    refine lv_iconst (v := 5) hx hb dX0_isHow_5 (by decide) ?_
    refine lv_icmp_gt (tgt := 13) hx hb dX0_isHow_6 (by decide) (fun c_2 => ?_) (fun c_2 => ?_)
    · skip
      refine lv_iconst (v := 0) hx hb dX0_isHow_13 (by decide) ?_
      exact q_rb hx hb hr hlk (by simp [hwo, b2i, c_1, c_2]) dX0_isHow_14
    · skip
      refine lv_iconst (v := 1) hx hb dX0_isHow_9 (by decide) ?_
      refine lv_goto (tgt := 14) hx hb dX0_isHow_10 (by decide) ?_
      exact q_rb hx hb hr hlk (by simp [hwo, b2i, c_1, c_2]) dX0_isHow_14

theorem hdX0_isMark : yX0_isMark.cls ≠ "java/lang/invoke/MethodHandle" ∧ yX0_isMark.cls ≠ "java/lang/invoke/VarHandle" ∧ (parseMethodDescriptor yX0_isMark.desc).map (fun d => d.parameters.length) = some 1 := by decide +kernel
set_option maxHeartbeats 4000000 in
set_option maxRecDepth 100000 in
theorem mX0_isMark (l : Launch) (x : Int32) : Met l yX0_isMark wsX0_isMark ({ frames := 0, cells := 0, slots := 0, locals := 0 }) (va_Pc [.int x] (fun _ => True)) (QcRead (b2i (mrk x))) 0 0 (fun _ => False) := by
  refine Met.ofW (cc := cX0_isMark) (maxL := 1) (ret := (some .boolean)) (by decide) rfl ?_
  intro p e s m args below meth c s₁ B hml hv
  obtain ⟨rfl, -⟩ := hv
  have hx := B.exec
  have hb := B.bytes
  have hr := B.returns
  have hts := atoms_spec (ws := wsX0_isMark) B.pre
  have hown : s.vm.findClass RX0 = some m.cls := findClass_of_methodNamed B.named
  have hlk := B.notSynchronized
  have hl := lv_entry ([.int x]) (n := 1) (Nat.le_of_ble_eq_true rfl)
  rw [lg_entry_eq]
  generalize (lg_sl ([.int x]) ++ List.replicate (1 - (lg_sl ([.int x])).length) Slot.unset).toArray = ls at hl ⊢
  have hl : lv_has ls 1 [(0, .int x)] := hl
  refine lv_iload_n hx hb dX0_isMark_0 rfl (lv_at hl 0 rfl) ?_
  refine lv_if_lt (tgt := 15) hx hb dX0_isMark_1 (by decide) (fun c_1 => ?_) (fun c_1 => ?_)
  · skip
    refine lv_iconst (v := 0) hx hb dX0_isMark_15 (by decide) ?_
    exact q_rb hx hb hr hlk (by simp [mrk, b2i, c_1]) dX0_isMark_16
  · skip
    refine lv_iload_n hx hb dX0_isMark_4 rfl (lv_at hl 0 rfl) ?_
    refine lv_sipush (v := 1200) hx hb dX0_isMark_5 (by decide) ?_
    refine lv_icmp_gt (tgt := 15) hx hb dX0_isMark_8 (by decide) (fun c_2 => ?_) (fun c_2 => ?_)
    · skip
      refine lv_iconst (v := 0) hx hb dX0_isMark_15 (by decide) ?_
      exact q_rb hx hb hr hlk (by simp [mrk, b2i, c_1, c_2]) dX0_isMark_16
    · skip
      refine lv_iconst (v := 1) hx hb dX0_isMark_11 (by decide) ?_
      refine lv_goto (tgt := 16) hx hb dX0_isMark_12 (by decide) ?_
      exact q_rb hx hb hr hlk (by simp [mrk, b2i, c_1, c_2]) dX0_isMark_16

theorem hdX0_isWind : yX0_isWind.cls ≠ "java/lang/invoke/MethodHandle" ∧ yX0_isWind.cls ≠ "java/lang/invoke/VarHandle" ∧ (parseMethodDescriptor yX0_isWind.desc).map (fun d => d.parameters.length) = some 1 := by decide +kernel
set_option maxHeartbeats 4000000 in
set_option maxRecDepth 100000 in
theorem mX0_isWind (l : Launch) (x : Int32) : Met l yX0_isWind wsX0_isWind ({ frames := 0, cells := 0, slots := 0, locals := 0 }) (va_Pc [.int x] (fun _ => True)) (QcRead (b2i (wnd x))) 0 0 (fun _ => False) := by
  refine Met.ofW (cc := cX0_isWind) (maxL := 1) (ret := (some .boolean)) (by decide) rfl ?_
  intro p e s m args below meth c s₁ B hml hv
  obtain ⟨rfl, -⟩ := hv
  have hx := B.exec
  have hb := B.bytes
  have hr := B.returns
  have hts := atoms_spec (ws := wsX0_isWind) B.pre
  have hown : s.vm.findClass RX0 = some m.cls := findClass_of_methodNamed B.named
  have hlk := B.notSynchronized
  have hl := lv_entry ([.int x]) (n := 1) (Nat.le_of_ble_eq_true rfl)
  rw [lg_entry_eq]
  generalize (lg_sl ([.int x]) ++ List.replicate (1 - (lg_sl ([.int x])).length) Slot.unset).toArray = ls at hl ⊢
  have hl : lv_has ls 1 [(0, .int x)] := hl
  refine lv_iload_n hx hb dX0_isWind_0 rfl (lv_at hl 0 rfl) ?_
  refine lv_bipush (v := (-99)) hx hb dX0_isWind_1 (by decide) ?_
  refine lv_icmp_lt (tgt := 16) hx hb dX0_isWind_3 (by decide) (fun c_1 => ?_) (fun c_1 => ?_)
  · skip
    refine lv_iconst (v := 0) hx hb dX0_isWind_16 (by decide) ?_
    exact q_rb hx hb hr hlk (by simp [wnd, b2i, c_1]) dX0_isWind_17
  · skip
    refine lv_iload_n hx hb dX0_isWind_6 rfl (lv_at hl 0 rfl) ?_
    refine lv_bipush (v := 100) hx hb dX0_isWind_7 (by decide) ?_
    refine lv_icmp_gt (tgt := 16) hx hb dX0_isWind_9 (by decide) (fun c_2 => ?_) (fun c_2 => ?_)
    · skip
      refine lv_iconst (v := 0) hx hb dX0_isWind_16 (by decide) ?_
      exact q_rb hx hb hr hlk (by simp [wnd, b2i, c_1, c_2]) dX0_isWind_17
    · skip
      refine lv_iconst (v := 1) hx hb dX0_isWind_12 (by decide) ?_
      refine lv_goto (tgt := 17) hx hb dX0_isWind_13 (by decide) ?_
      exact q_rb hx hb hr hlk (by simp [wnd, b2i, c_1, c_2]) dX0_isWind_17

theorem hdX0_at : yX0_at.cls ≠ "java/lang/invoke/MethodHandle" ∧ yX0_at.cls ≠ "java/lang/invoke/VarHandle" ∧ (parseMethodDescriptor yX0_at.desc).map (fun d => d.parameters.length) = some 2 := by decide +kernel
set_option maxHeartbeats 4000000 in
set_option maxRecDepth 100000 in
theorem mX0_at (l : Launch) (j : Nat) (r : Nat) : Met l yX0_at wsX0_at ({ frames := 0, cells := 0, slots := 0, locals := 0 }) (va_Pc [.int (nI j), .int (nI r)] (fun _ => True)) (QcRead (nI (6 * j + r))) 0 0 (fun _ => False) := by
  refine Met.ofW (cc := cX0_at) (maxL := 2) (ret := (some .int)) (by decide) rfl ?_
  intro p e s m args below meth c s₁ B hml hv
  obtain ⟨rfl, -⟩ := hv
  have hx := B.exec
  have hb := B.bytes
  have hr := B.returns
  have hts := atoms_spec (ws := wsX0_at) B.pre
  have hown : s.vm.findClass RX0 = some m.cls := findClass_of_methodNamed B.named
  have hlk := B.notSynchronized
  have hl := lv_entry ([.int (nI j), .int (nI r)]) (n := 2) (Nat.le_of_ble_eq_true rfl)
  rw [lg_entry_eq]
  generalize (lg_sl ([.int (nI j), .int (nI r)]) ++ List.replicate (2 - (lg_sl ([.int (nI j), .int (nI r)])).length) Slot.unset).toArray = ls at hl ⊢
  have hl : lv_has ls 2 [(0, .int (nI j)), (1, .int (nI r))] := hl
  refine lv_iload_n hx hb dX0_at_0 rfl (lv_at hl 0 rfl) ?_
  refine lv_bipush (v := 6) hx hb dX0_at_1 (by decide) ?_
  refine lv_imul hx hb dX0_at_3 ?_
  refine lv_iload_n hx hb dX0_at_4 rfl (lv_at hl 1 rfl) ?_
  refine lv_iadd hx hb dX0_at_5 ?_
  exact q_ri hx hb hr hlk (by exact nI_mul6 j r) dX0_at_6

theorem hdX0_isNone : yX0_isNone.cls ≠ "java/lang/invoke/MethodHandle" ∧ yX0_isNone.cls ≠ "java/lang/invoke/VarHandle" ∧ (parseMethodDescriptor yX0_isNone.desc).map (fun d => d.parameters.length) = some 2 := by decide +kernel
set_option maxHeartbeats 4000000 in
set_option maxRecDepth 100000 in
theorem mX0_isNone (l : Launch) (w : Int32) (v : Int32) : Met l yX0_isNone wsX0_isNone ({ frames := 0, cells := 0, slots := 0, locals := 0 }) (va_Pc [.int w, .int v] (fun _ => True)) (QcRead (b2i (decide (v = non w)))) 0 0 (fun _ => False) := by
  refine Met.ofW (cc := cX0_isNone) (maxL := 2) (ret := (some .boolean)) (by decide) rfl ?_
  intro p e s m args below meth c s₁ B hml hv
  obtain ⟨rfl, -⟩ := hv
  have hx := B.exec
  have hb := B.bytes
  have hr := B.returns
  have hts := atoms_spec (ws := wsX0_isNone) B.pre
  have hown : s.vm.findClass RX0 = some m.cls := findClass_of_methodNamed B.named
  have hlk := B.notSynchronized
  have hl := lv_entry ([.int w, .int v]) (n := 2) (Nat.le_of_ble_eq_true rfl)
  rw [lg_entry_eq]
  generalize (lg_sl ([.int w, .int v]) ++ List.replicate (2 - (lg_sl ([.int w, .int v])).length) Slot.unset).toArray = ls at hl ⊢
  have hl : lv_has ls 2 [(0, .int w), (1, .int v)] := hl
  refine lv_iload_n hx hb dX0_isNone_0 rfl (lv_at hl 1 rfl) ?_
  refine lv_iload_n hx hb dX0_isNone_1 rfl (lv_at hl 0 rfl) ?_
  refine lv_if_ne (tgt := 9) hx hb dX0_isNone_2 (by decide) (fun c_1 => ?_) (fun c_1 => ?_)
  · skip
    refine lv_bipush (v := 100) hx hb dX0_isNone_9 (by decide) ?_
    refine lv_icmp_ne (tgt := 18) hx hb dX0_isNone_11 (by decide) (fun c_2 => ?_) (fun c_2 => ?_)
    · skip
      refine lv_iconst (v := 0) hx hb dX0_isNone_18 (by decide) ?_
      exact q_rb hx hb hr hlk (by simp [non, b2i, c_1, c_2]) dX0_isNone_19
    · skip
      refine lv_iconst (v := 1) hx hb dX0_isNone_14 (by decide) ?_
      refine lv_goto (tgt := 19) hx hb dX0_isNone_15 (by decide) ?_
      exact q_rb hx hb hr hlk (by simp [non, b2i, c_1, c_2]) dX0_isNone_19
  · skip
    refine lv_iconst (v := 0) hx hb dX0_isNone_5 (by decide) ?_
    refine lv_goto (tgt := 11) hx hb dX0_isNone_6 (by decide) ?_
    refine lv_icmp_ne (tgt := 18) hx hb dX0_isNone_11 (by decide) (fun c_3 => ?_) (fun c_3 => ?_)
    · skip
      refine lv_iconst (v := 0) hx hb dX0_isNone_18 (by decide) ?_
      exact q_rb hx hb hr hlk (by simp [non, b2i, c_1, c_3]) dX0_isNone_19
    · skip
      refine lv_iconst (v := 1) hx hb dX0_isNone_14 (by decide) ?_
      refine lv_goto (tgt := 19) hx hb dX0_isNone_15 (by decide) ?_
      exact q_rb hx hb hr hlk (by simp [non, b2i, c_1, c_3]) dX0_isNone_19

theorem hdX0_numberFits : yX0_numberFits.cls ≠ "java/lang/invoke/MethodHandle" ∧ yX0_numberFits.cls ≠ "java/lang/invoke/VarHandle" ∧ (parseMethodDescriptor yX0_numberFits.desc).map (fun d => d.parameters.length) = some 3 := by decide +kernel
set_option maxHeartbeats 4000000 in
set_option maxRecDepth 100000 in
theorem mX0_numberFits (l : Launch) (k : Int32) (v : Int32) (o : Int32) : Met l yX0_numberFits wsX0_numberFits ({ frames := 0, cells := 0, slots := 0, locals := 0 }) (va_Pc [.int k, .int v, .int o] (fun _ => True)) (QcRead (b2i (nfit k v o))) 0 0 (fun _ => False) := by
  refine Met.ofW (cc := cX0_numberFits) (maxL := 3) (ret := (some .boolean)) (by decide) rfl ?_
  intro p e s m args below meth c s₁ B hml hv
  obtain ⟨rfl, -⟩ := hv
  have hx := B.exec
  have hb := B.bytes
  have hr := B.returns
  have hts := atoms_spec (ws := wsX0_numberFits) B.pre
  have hown : s.vm.findClass RX0 = some m.cls := findClass_of_methodNamed B.named
  have hlk := B.notSynchronized
  have hl := lv_entry ([.int k, .int v, .int o]) (n := 3) (Nat.le_of_ble_eq_true rfl)
  rw [lg_entry_eq]
  generalize (lg_sl ([.int k, .int v, .int o]) ++ List.replicate (3 - (lg_sl ([.int k, .int v, .int o])).length) Slot.unset).toArray = ls at hl ⊢
  have hl : lv_has ls 3 [(0, .int k), (1, .int v), (2, .int o)] := hl
  refine lv_iload_n hx hb dX0_numberFits_0 rfl (lv_at hl 0 rfl) ?_
  by_cases c_1 : k = 0
  · skip
    refine lv_tableIn (tgt := 36) hx hb dX0_numberFits_1 (by rw [c_1]; decide) (by rw [c_1]; decide) (by rw [c_1]; rfl) (by decide) ?_
    refine lv_iload_n hx hb dX0_numberFits_36 rfl (lv_at hl 1 rfl) ?_
    refine lv_iload_n hx hb dX0_numberFits_37 rfl (lv_at hl 2 rfl) ?_
    refine lv_icmp_ge (tgt := 45) hx hb dX0_numberFits_38 (by decide) (fun c_2 => ?_) (fun c_2 => ?_)
    · skip
      refine lv_iconst (v := 0) hx hb dX0_numberFits_45 (by decide) ?_
      exact q_rb hx hb hr hlk (by simp [nfit, b2i, c_1, c_2]) dX0_numberFits_46
    · skip
      refine lv_iconst (v := 1) hx hb dX0_numberFits_41 (by decide) ?_
      refine lv_goto (tgt := 46) hx hb dX0_numberFits_42 (by decide) ?_
      exact q_rb hx hb hr hlk (by simp [nfit, b2i, c_1, c_2]) dX0_numberFits_46
  by_cases c_3 : k = 1
  · skip
    refine lv_tableIn (tgt := 47) hx hb dX0_numberFits_1 (by rw [c_3]; decide) (by rw [c_3]; decide) (by rw [c_3]; rfl) (by decide) ?_
    refine lv_iload_n hx hb dX0_numberFits_47 rfl (lv_at hl 1 rfl) ?_
    refine lv_iload_n hx hb dX0_numberFits_48 rfl (lv_at hl 2 rfl) ?_
    refine lv_icmp_gt (tgt := 56) hx hb dX0_numberFits_49 (by decide) (fun c_4 => ?_) (fun c_4 => ?_)
    · skip
      refine lv_iconst (v := 0) hx hb dX0_numberFits_56 (by decide) ?_
      exact q_rb hx hb hr hlk (by simp [nfit, b2i, c_1, c_3, c_4]) dX0_numberFits_57
    · skip
      refine lv_iconst (v := 1) hx hb dX0_numberFits_52 (by decide) ?_
      refine lv_goto (tgt := 57) hx hb dX0_numberFits_53 (by decide) ?_
      exact q_rb hx hb hr hlk (by simp [nfit, b2i, c_1, c_3, c_4]) dX0_numberFits_57
  by_cases c_5 : k = 2
  · skip
    refine lv_tableIn (tgt := 58) hx hb dX0_numberFits_1 (by rw [c_5]; decide) (by rw [c_5]; decide) (by rw [c_5]; rfl) (by decide) ?_
    refine lv_iload_n hx hb dX0_numberFits_58 rfl (lv_at hl 1 rfl) ?_
    refine lv_iload_n hx hb dX0_numberFits_59 rfl (lv_at hl 2 rfl) ?_
    refine lv_icmp_le (tgt := 67) hx hb dX0_numberFits_60 (by decide) (fun c_6 => ?_) (fun c_6 => ?_)
    · skip
      refine lv_iconst (v := 0) hx hb dX0_numberFits_67 (by decide) ?_
      exact q_rb hx hb hr hlk (by simp [nfit, b2i, c_1, c_3, c_5, c_6]) dX0_numberFits_68
    · skip
      refine lv_iconst (v := 1) hx hb dX0_numberFits_63 (by decide) ?_
      refine lv_goto (tgt := 68) hx hb dX0_numberFits_64 (by decide) ?_
      exact q_rb hx hb hr hlk (by simp [nfit, b2i, c_1, c_3, c_5, c_6]) dX0_numberFits_68
  by_cases c_7 : k = 3
  · skip
    refine lv_tableIn (tgt := 69) hx hb dX0_numberFits_1 (by rw [c_7]; decide) (by rw [c_7]; decide) (by rw [c_7]; rfl) (by decide) ?_
    refine lv_iload_n hx hb dX0_numberFits_69 rfl (lv_at hl 1 rfl) ?_
    refine lv_iload_n hx hb dX0_numberFits_70 rfl (lv_at hl 2 rfl) ?_
    refine lv_icmp_lt (tgt := 78) hx hb dX0_numberFits_71 (by decide) (fun c_8 => ?_) (fun c_8 => ?_)
    · skip
      refine lv_iconst (v := 0) hx hb dX0_numberFits_78 (by decide) ?_
      exact q_rb hx hb hr hlk (by simp [nfit, b2i, c_1, c_3, c_5, c_7, c_8]) dX0_numberFits_79
    · skip
      refine lv_iconst (v := 1) hx hb dX0_numberFits_74 (by decide) ?_
      refine lv_goto (tgt := 79) hx hb dX0_numberFits_75 (by decide) ?_
      exact q_rb hx hb hr hlk (by simp [nfit, b2i, c_1, c_3, c_5, c_7, c_8]) dX0_numberFits_79
  by_cases c_9 : k = 4
  · skip
    refine lv_tableIn (tgt := 80) hx hb dX0_numberFits_1 (by rw [c_9]; decide) (by rw [c_9]; decide) (by rw [c_9]; rfl) (by decide) ?_
    refine lv_iload_n hx hb dX0_numberFits_80 rfl (lv_at hl 1 rfl) ?_
    refine lv_iload_n hx hb dX0_numberFits_81 rfl (lv_at hl 2 rfl) ?_
    refine lv_icmp_ne (tgt := 89) hx hb dX0_numberFits_82 (by decide) (fun c_10 => ?_) (fun c_10 => ?_)
    · skip
      refine lv_iconst (v := 0) hx hb dX0_numberFits_89 (by decide) ?_
      exact q_rb hx hb hr hlk (by simp [nfit, b2i, c_1, c_3, c_5, c_7, c_9, c_10]) dX0_numberFits_90
    · skip
      refine lv_iconst (v := 1) hx hb dX0_numberFits_85 (by decide) ?_
      refine lv_goto (tgt := 90) hx hb dX0_numberFits_86 (by decide) ?_
      exact q_rb hx hb hr hlk (by simp [nfit, b2i, c_1, c_3, c_5, c_7, c_9, c_10]) dX0_numberFits_90
  refine lv_tableOut (tgt := 91) hx hb dX0_numberFits_1 (tOut5 c_1 c_3 c_5 c_7 c_9) (by decide) ?_
  refine lv_iload_n hx hb dX0_numberFits_91 rfl (lv_at hl 1 rfl) ?_
  refine lv_iload_n hx hb dX0_numberFits_92 rfl (lv_at hl 2 rfl) ?_
  refine lv_icmp_eq (tgt := 100) hx hb dX0_numberFits_93 (by decide) (fun c_11 => ?_) (fun c_11 => ?_)
  · skip
    refine lv_iconst (v := 0) hx hb dX0_numberFits_100 (by decide) ?_
    exact q_rb hx hb hr hlk (by simp [nfit, b2i, c_1, c_3, c_5, c_7, c_9, c_11]) dX0_numberFits_101
  · skip
    refine lv_iconst (v := 1) hx hb dX0_numberFits_96 (by decide) ?_
    refine lv_goto (tgt := 101) hx hb dX0_numberFits_97 (by decide) ?_
    exact q_rb hx hb hr hlk (by simp [nfit, b2i, c_1, c_3, c_5, c_7, c_9, c_11]) dX0_numberFits_101

theorem hdX0_valueFits : yX0_valueFits.cls ≠ "java/lang/invoke/MethodHandle" ∧ yX0_valueFits.cls ≠ "java/lang/invoke/VarHandle" ∧ (parseMethodDescriptor yX0_valueFits.desc).map (fun d => d.parameters.length) = some 4 := by decide +kernel
set_option maxHeartbeats 4000000 in
set_option maxRecDepth 100000 in
theorem mX0_valueFits (l : Launch) (k : Int32) (w : Int32) (v : Int32) (o : Int32) : Met l yX0_valueFits wsX0_valueFits ({ frames := 1, cells := 0, slots := 0, locals := 22 }) (va_Pc [.int k, .int w, .int v, .int o] (fun _ => True)) (QcRead (b2i (fitv k w v o))) 0 0 (fun _ => False) := by
  refine Met.ofW (cc := cX0_valueFits) (maxL := 4) (ret := (some .boolean)) (by decide) rfl ?_
  intro p e s m args below meth c s₁ B hml hv
  obtain ⟨rfl, -⟩ := hv
  have hx := B.exec
  have hb := B.bytes
  have hr := B.returns
  have hts := atoms_spec (ws := wsX0_valueFits) B.pre
  have hown : s.vm.findClass RX0 = some m.cls := findClass_of_methodNamed B.named
  have hlk := B.notSynchronized
  have hl := lv_entry ([.int k, .int w, .int v, .int o]) (n := 4) (Nat.le_of_ble_eq_true rfl)
  rw [lg_entry_eq]
  generalize (lg_sl ([.int k, .int w, .int v, .int o]) ++ List.replicate (4 - (lg_sl ([.int k, .int w, .int v, .int o])).length) Slot.unset).toArray = ls at hl ⊢
  have hl : lv_has ls 4 [(0, .int k), (1, .int w), (2, .int v), (3, .int o)] := hl
  refine lv_iload_n hx hb dX0_valueFits_0 rfl (lv_at hl 1 rfl) ?_
  refine lv_iload_n hx hb dX0_valueFits_1 rfl (lv_at hl 2 rfl) ?_
  refine q_cs [.int w, .int v] (rest := []) ⟨hx, hb, hml, hown, hts⟩ (mX0_isNone l w v) gX0_valueFits_X0_isNone rfl rfl rfl hdX0_isNone ⟨Nat.le_of_ble_eq_true rfl, Nat.le_of_ble_eq_true rfl⟩ rfl hl.1 rfl (Nat.le_of_ble_eq_true rfl) dX0_valueFits_2 ⟨Nat.zero_le _, Nat.zero_le _⟩ ?_
  refine lv_if_ne (tgt := 16) hx hb dX0_valueFits_5 (by decide) (fun c_1 => ?_) (fun c_1 => ?_)
  · skip
    have c_1 : (decide (v = non w)) = true := b2i_n c_1
    refine lv_iload_n hx hb dX0_valueFits_16 rfl (lv_at hl 0 rfl) ?_
    refine lv_iconst (v := 5) hx hb dX0_valueFits_17 (by decide) ?_
    refine lv_icmp_ne (tgt := 25) hx hb dX0_valueFits_18 (by decide) (fun c_2 => ?_) (fun c_2 => ?_)
    · skip
      refine lv_iconst (v := 0) hx hb dX0_valueFits_25 (by decide) ?_
      exact q_rb hx hb hr hlk (by simp_all [fitv, b2i]) dX0_valueFits_26
    · skip
      refine lv_iconst (v := 1) hx hb dX0_valueFits_21 (by decide) ?_
      refine lv_goto (tgt := 26) hx hb dX0_valueFits_22 (by decide) ?_
      exact q_rb hx hb hr hlk (by simp_all [fitv, b2i]) dX0_valueFits_26
  · skip
    have c_1 : (decide (v = non w)) = false := b2i_0 c_1
    refine lv_iload_n hx hb dX0_valueFits_8 rfl (lv_at hl 1 rfl) ?_
    refine lv_iload_n hx hb dX0_valueFits_9 rfl (lv_at hl 3 rfl) ?_
    refine q_cs [.int w, .int o] (rest := []) ⟨hx, hb, hml, hown, hts⟩ (mX0_isNone l w o) gX0_valueFits_X0_isNone rfl rfl rfl hdX0_isNone ⟨Nat.le_of_ble_eq_true rfl, Nat.le_of_ble_eq_true rfl⟩ rfl hl.1 rfl (Nat.le_of_ble_eq_true rfl) dX0_valueFits_10 ⟨Nat.zero_le _, Nat.zero_le _⟩ ?_
    refine lv_if_eq (tgt := 27) hx hb dX0_valueFits_13 (by decide) (fun c_3 => ?_) (fun c_3 => ?_)
    · skip
      have c_3 : (decide (o = non w)) = false := b2i_0 c_3
      refine lv_iload_n hx hb dX0_valueFits_27 rfl (lv_at hl 0 rfl) ?_
      refine lv_iload_n hx hb dX0_valueFits_28 rfl (lv_at hl 2 rfl) ?_
      refine lv_iload_n hx hb dX0_valueFits_29 rfl (lv_at hl 3 rfl) ?_
      refine q_cs [.int k, .int v, .int o] (rest := []) ⟨hx, hb, hml, hown, hts⟩ (mX0_numberFits l k v o) gX0_valueFits_X0_numberFits rfl rfl rfl hdX0_numberFits ⟨Nat.le_of_ble_eq_true rfl, Nat.le_of_ble_eq_true rfl⟩ rfl hl.1 rfl (Nat.le_of_ble_eq_true rfl) dX0_valueFits_30 ⟨Nat.zero_le _, Nat.zero_le _⟩ ?_
      exact q_rb hx hb hr hlk (by simp_all [fitv, b2i]) dX0_valueFits_33
    · skip
      have c_3 : (decide (o = non w)) = true := b2i_n c_3
      refine lv_iload_n hx hb dX0_valueFits_16 rfl (lv_at hl 0 rfl) ?_
      refine lv_iconst (v := 5) hx hb dX0_valueFits_17 (by decide) ?_
      refine lv_icmp_ne (tgt := 25) hx hb dX0_valueFits_18 (by decide) (fun c_4 => ?_) (fun c_4 => ?_)
      · skip
        refine lv_iconst (v := 0) hx hb dX0_valueFits_25 (by decide) ?_
        exact q_rb hx hb hr hlk (by simp_all [fitv, b2i]) dX0_valueFits_26
      · skip
        refine lv_iconst (v := 1) hx hb dX0_valueFits_21 (by decide) ?_
        refine lv_goto (tgt := 26) hx hb dX0_valueFits_22 (by decide) ?_
        exact q_rb hx hb hr hlk (by simp_all [fitv, b2i]) dX0_valueFits_26

theorem hdX0_isJumper : yX0_isJumper.cls = RX0 ∧ yX0_isJumper.cls ≠ "java/lang/invoke/MethodHandle" ∧ yX0_isJumper.cls ≠ "java/lang/invoke/VarHandle" ∧ (parseMethodDescriptor yX0_isJumper.desc).map (fun d => d.parameters.length) = some 1 := by decide +kernel
set_option maxHeartbeats 4000000 in
set_option maxRecDepth 100000 in
theorem mX0_isJumper (l : Launch) (dC : Nat → ClassId) (dI : Nat → Nat → Nat) (h qb qj qm qw qr : Nat) (cA : ClassId) (n : Nat) (rec lim : Int32) (fb fj fm fw fr : Nat → Int32) (x : Int32) : Met l yX0_isJumper wsX0_isJumper ({ frames := 0, cells := 0, slots := 0, locals := 0 }) (va_Pc [.ref h, .int x] (fun U => va_P (dC, dI) vwCl (wX h qb qj qm qw qr cA (nI n) rec lim fb fj fm fw fr) U.heap ∧ va_K (dC, dI) vwCl [(cA, .int)] U)) (QcRead (b2i (jmp (nI n) x))) 0 0 (fun _ => False) := by
  refine Met.ofW (cc := cX0_isJumper) (maxL := 2) (ret := (some .boolean)) (by decide) rfl ?_
  intro p e s m args below meth c s₁ B hml hv
  obtain ⟨rfl, hP, hK⟩ := hv
  have hx := B.exec
  have hb := B.bytes
  have hr := B.returns
  have hts := atoms_spec (ws := wsX0_isJumper) B.pre
  have hown : s.vm.findClass RX0 = some m.cls := findClass_of_methodNamed B.named
  have hlk := B.notSynchronized
  have hin : ∀ w ∈ wsX00, w ∈ wsX0_isJumper := fun w h => List.mem_cons_of_mem _ (List.mem_append_right _ h)
  have hf_7 := hts (.fieldLink RX0 7 "JumpBoard" "jumpers" "I") (by decide +kernel)
  have hl := lv_entry ([.ref h, .int x]) (n := 2) (Nat.le_of_ble_eq_true rfl)
  rw [lg_entry_eq]
  generalize (lg_sl ([.ref h, .int x]) ++ List.replicate (2 - (lg_sl ([.ref h, .int x])).length) Slot.unset).toArray = ls at hl ⊢
  have hl : lv_has ls 2 [(0, .ref h), (1, .int x)] := hl
  refine lv_iload_n hx hb dX0_isJumper_0 rfl (lv_at hl 1 rfl) ?_
  refine lv_if_lt (tgt := 16) hx hb dX0_isJumper_1 (by decide) (fun c_1 => ?_) (fun c_1 => ?_)
  · skip
    refine lv_iconst (v := 0) hx hb dX0_isJumper_16 (by decide) ?_
    exact q_rb hx hb hr hlk (by simp [jmp, b2i, c_1]) dX0_isJumper_17
  · skip
    refine lv_iload_n hx hb dX0_isJumper_4 rfl (lv_at hl 1 rfl) ?_
    refine lv_aload_n hx hb dX0_isJumper_5 rfl (lv_at hl 0 rfl) ?_
    refine va_get (D := (dC, dI)) (ci := 0) (v := .int (nI n)) (C := RX0) (T := TX0) (N := 8) hx hb hts hin hown hK hP 0 rfl rfl 0 (by decide) hf_7 (fun _ h9 => h9) rfl dX0_isJumper_6 ?_
    refine lv_icmp_ge (tgt := 16) hx hb dX0_isJumper_9 (by decide) (fun c_2 => ?_) (fun c_2 => ?_)
    · skip
      refine lv_iconst (v := 0) hx hb dX0_isJumper_16 (by decide) ?_
      exact q_rb hx hb hr hlk (by simp [jmp, b2i, c_1, c_2]) dX0_isJumper_17
    · skip
      refine lv_iconst (v := 1) hx hb dX0_isJumper_12 (by decide) ?_
      refine lv_goto (tgt := 17) hx hb dX0_isJumper_13 (by decide) ?_
      exact q_rb hx hb hr hlk (by simp [jmp, b2i, c_1, c_2]) dX0_isJumper_17

theorem hdX0_isQuestion : yX0_isQuestion.cls = RX0 ∧ yX0_isQuestion.cls ≠ "java/lang/invoke/MethodHandle" ∧ yX0_isQuestion.cls ≠ "java/lang/invoke/VarHandle" ∧ (parseMethodDescriptor yX0_isQuestion.desc).map (fun d => d.parameters.length) = some 4 := by decide +kernel
set_option maxHeartbeats 4000000 in
set_option maxRecDepth 100000 in
theorem mX0_isQuestion (l : Launch) (dC : Nat → ClassId) (dI : Nat → Nat → Nat) (h qb qj qm qw qr : Nat) (cA : ClassId) (n : Nat) (rec lim : Int32) (fb fj fm fw fr : Nat → Int32) (k : Int32) (w : Int32) (x : Int32) (v : Int32) : Met l yX0_isQuestion wsX0_isQuestion ({ frames := 1, cells := 0, slots := 0, locals := 21 }) (va_Pc [.ref h, .int k, .int w, .int x, .int v] (fun U => va_P (dC, dI) vwCl (wX h qb qj qm qw qr cA (nI n) rec lim fb fj fm fw fr) U.heap ∧ va_K (dC, dI) vwCl [(cA, .int)] U)) (QcRead (b2i (qst (nI n) k w x v))) 0 0 (fun _ => False) := by
  refine Met.ofW (cc := cX0_isQuestion) (maxL := 5) (ret := (some .boolean)) (by decide) rfl ?_
  intro p e s m args below meth c s₁ B hml hv
  obtain ⟨rfl, hP, hK⟩ := hv
  have hx := B.exec
  have hb := B.bytes
  have hr := B.returns
  have hts := atoms_spec (ws := wsX0_isQuestion) B.pre
  have hown : s.vm.findClass RX0 = some m.cls := findClass_of_methodNamed B.named
  have hlk := B.notSynchronized
  have hl := lv_entry ([.ref h, .int k, .int w, .int x, .int v]) (n := 5) (Nat.le_of_ble_eq_true rfl)
  rw [lg_entry_eq]
  generalize (lg_sl ([.ref h, .int k, .int w, .int x, .int v]) ++ List.replicate (5 - (lg_sl ([.ref h, .int k, .int w, .int x, .int v])).length) Slot.unset).toArray = ls at hl ⊢
  have hl : lv_has ls 5 [(0, .ref h), (1, .int k), (2, .int w), (3, .int x), (4, .int v)] := hl
  refine lv_iload_n hx hb dX0_isQuestion_0 rfl (lv_at hl 1 rfl) ?_
  refine q_cs [.int k] (rest := []) ⟨hx, hb, hml, hown, hts⟩ (mX0_isHow l k) gX0_isQuestion_X0_isHow rfl rfl rfl hdX0_isHow ⟨Nat.le_of_ble_eq_true rfl, Nat.le_of_ble_eq_true rfl⟩ rfl hl.1 rfl (Nat.le_of_ble_eq_true rfl) dX0_isQuestion_1 ⟨Nat.zero_le _, Nat.zero_le _⟩ ?_
  refine lv_if_eq (tgt := 49) hx hb dX0_isQuestion_4 (by decide) (fun c_1 => ?_) (fun c_1 => ?_)
  · skip
    have c_1 : (hwo k) = false := b2i_0 c_1
    refine lv_iconst (v := 0) hx hb dX0_isQuestion_49 (by decide) ?_
    exact q_rb hx hb hr hlk (by simp_all [qst, cde, b2i]) dX0_isQuestion_50
  · skip
    have c_1 : (hwo k) = true := b2i_n c_1
    refine lv_iload_n hx hb dX0_isQuestion_7 rfl (lv_at hl 2 rfl) ?_
    refine q_cs [.int w] (rest := []) ⟨hx, hb, hml, hown, hts⟩ (mX0_isWhat l w) gX0_isQuestion_X0_isWhat rfl rfl rfl hdX0_isWhat ⟨Nat.le_of_ble_eq_true rfl, Nat.le_of_ble_eq_true rfl⟩ rfl hl.1 rfl (Nat.le_of_ble_eq_true rfl) dX0_isQuestion_8 ⟨Nat.zero_le _, Nat.zero_le _⟩ ?_
    refine lv_if_eq (tgt := 49) hx hb dX0_isQuestion_11 (by decide) (fun c_2 => ?_) (fun c_2 => ?_)
    · skip
      have c_2 : (wht w) = false := b2i_0 c_2
      refine lv_iconst (v := 0) hx hb dX0_isQuestion_49 (by decide) ?_
      exact q_rb hx hb hr hlk (by simp_all [qst, cde, b2i]) dX0_isQuestion_50
    · skip
      have c_2 : (wht w) = true := b2i_n c_2
      refine lv_aload_n hx hb dX0_isQuestion_14 rfl (lv_at hl 0 rfl) ?_
      refine lv_iload_n hx hb dX0_isQuestion_15 rfl (lv_at hl 3 rfl) ?_
      refine q_cv [.int x] (rest := []) ⟨hx, hb, hml, hown, hts⟩ (mX0_isJumper l dC dI h qb qj qm qw qr cA n rec lim fb fj fm fw fr x) gX0_isQuestion_X0_isJumper rfl rfl rfl hdX0_isJumper ⟨Nat.le_of_ble_eq_true rfl, Nat.le_of_ble_eq_true rfl⟩ rfl hK hP rfl rfl hl.1 rfl (Nat.le_of_ble_eq_true rfl) dX0_isQuestion_16 ⟨Nat.zero_le _, Nat.zero_le _⟩ ?_
      refine lv_if_eq (tgt := 49) hx hb dX0_isQuestion_19 (by decide) (fun c_3 => ?_) (fun c_3 => ?_)
      · skip
        have c_3 : (jmp (nI n) x) = false := b2i_0 c_3
        refine lv_iconst (v := 0) hx hb dX0_isQuestion_49 (by decide) ?_
        exact q_rb hx hb hr hlk (by simp_all [qst, cde, b2i]) dX0_isQuestion_50
      · skip
        have c_3 : (jmp (nI n) x) = true := b2i_n c_3
        refine lv_iload_n hx hb dX0_isQuestion_22 rfl (lv_at hl 2 rfl) ?_
        refine lv_if_ne (tgt := 37) hx hb dX0_isQuestion_23 (by decide) (fun c_4 => ?_) (fun c_4 => ?_)
        · skip
          refine lv_iload hx hb dX0_isQuestion_37 (lv_at hl 4 rfl) ?_
          refine q_cs [.int v] (rest := []) ⟨hx, hb, hml, hown, hts⟩ (mX0_isWind l v) gX0_isQuestion_X0_isWind rfl rfl rfl hdX0_isWind ⟨Nat.le_of_ble_eq_true rfl, Nat.le_of_ble_eq_true rfl⟩ rfl hl.1 rfl (Nat.le_of_ble_eq_true rfl) dX0_isQuestion_39 ⟨Nat.zero_le _, Nat.zero_le _⟩ ?_
          refine lv_if_eq (tgt := 49) hx hb dX0_isQuestion_42 (by decide) (fun c_5 => ?_) (fun c_5 => ?_)
          · skip
            have c_5 : (wnd v) = false := b2i_0 c_5
            refine lv_iconst (v := 0) hx hb dX0_isQuestion_49 (by decide) ?_
            exact q_rb hx hb hr hlk (by simp_all [qst, cde, b2i]) dX0_isQuestion_50
          · skip
            have c_5 : (wnd v) = true := b2i_n c_5
            refine lv_iconst (v := 1) hx hb dX0_isQuestion_45 (by decide) ?_
            refine lv_goto (tgt := 50) hx hb dX0_isQuestion_46 (by decide) ?_
            exact q_rb hx hb hr hlk (by simp_all [qst, cde, b2i]) dX0_isQuestion_50
        · skip
          refine lv_iload hx hb dX0_isQuestion_26 (lv_at hl 4 rfl) ?_
          refine q_cs [.int v] (rest := []) ⟨hx, hb, hml, hown, hts⟩ (mX0_isMark l v) gX0_isQuestion_X0_isMark rfl rfl rfl hdX0_isMark ⟨Nat.le_of_ble_eq_true rfl, Nat.le_of_ble_eq_true rfl⟩ rfl hl.1 rfl (Nat.le_of_ble_eq_true rfl) dX0_isQuestion_28 ⟨Nat.zero_le _, Nat.zero_le _⟩ ?_
          refine lv_if_eq (tgt := 49) hx hb dX0_isQuestion_31 (by decide) (fun c_6 => ?_) (fun c_6 => ?_)
          · skip
            have c_6 : (mrk v) = false := b2i_0 c_6
            refine lv_iconst (v := 0) hx hb dX0_isQuestion_49 (by decide) ?_
            exact q_rb hx hb hr hlk (by simp_all [qst, cde, b2i]) dX0_isQuestion_50
          · skip
            have c_6 : (mrk v) = true := b2i_n c_6
            refine lv_goto (tgt := 45) hx hb dX0_isQuestion_34 (by decide) ?_
            refine lv_iconst (v := 1) hx hb dX0_isQuestion_45 (by decide) ?_
            refine lv_goto (tgt := 50) hx hb dX0_isQuestion_46 (by decide) ?_
            exact q_rb hx hb hr hlk (by simp_all [qst, cde, b2i]) dX0_isQuestion_50

theorem hdX0_isBibTaken : yX0_isBibTaken.cls = RX0 ∧ yX0_isBibTaken.cls ≠ "java/lang/invoke/MethodHandle" ∧ yX0_isBibTaken.cls ≠ "java/lang/invoke/VarHandle" ∧ (parseMethodDescriptor yX0_isBibTaken.desc).map (fun d => d.parameters.length) = some 1 := by decide +kernel
set_option maxHeartbeats 4000000 in
set_option maxRecDepth 100000 in
theorem mX0_isBibTaken (l : Launch) (dC : Nat → ClassId) (dI : Nat → Nat → Nat) (h qb qj qm qw qr : Nat) (cA : ClassId) (n : Nat) (rec lim : Int32) (fb fj fm fw fr : Nat → Int32) (b : Int32) (hn : n ≤ 8) : Met l yX0_isBibTaken wsX0_isBibTaken ({ frames := 0, cells := 0, slots := 0, locals := 0 }) (va_Pc [.ref h, .int b] (fun U => va_P (dC, dI) vwCl (wX h qb qj qm qw qr cA (nI n) rec lim fb fj fm fw fr) U.heap ∧ va_K (dC, dI) vwCl [(cA, .int)] U)) (QcRead (b2i (anyB (fun i => decide (fb i = b)) n))) 0 0 (fun _ => False) := by
  refine Met.ofW (cc := cX0_isBibTaken) (maxL := 3) (ret := (some .boolean)) (by decide) rfl ?_
  intro p e s m args below meth c s₁ B hml hv
  obtain ⟨rfl, hP, hK⟩ := hv
  have hx := B.exec
  have hb := B.bytes
  have hr := B.returns
  have hts := atoms_spec (ws := wsX0_isBibTaken) B.pre
  have hown : s.vm.findClass RX0 = some m.cls := findClass_of_methodNamed B.named
  have hlk := B.notSynchronized
  have hin : ∀ w ∈ wsX00, w ∈ wsX0_isBibTaken := fun w h => List.mem_cons_of_mem _ (List.mem_append_right _ h)
  have hf_7 := hts (.fieldLink RX0 7 "JumpBoard" "jumpers" "I") (by decide +kernel)
  have hf_19 := hts (.fieldLink RX0 19 "JumpBoard" "bibs" "[I") (by decide +kernel)
  have hl := lv_entry ([.ref h, .int b]) (n := 3) (Nat.le_of_ble_eq_true rfl)
  rw [lg_entry_eq]
  generalize (lg_sl ([.ref h, .int b]) ++ List.replicate (3 - (lg_sl ([.ref h, .int b])).length) Slot.unset).toArray = ls at hl ⊢
  have hl : lv_has ls 3 [(0, .ref h), (1, .int b)] := hl
  refine lv_iconst (v := 0) hx hb dX0_isBibTaken_0 (by decide) ?_
  refine lv_istore_n (lv' := [(2, .int 0), (0, .ref h), (1, .int b)]) hx hb dX0_isBibTaken_1 rfl hl (by decide) rfl (fun ls hl => ?_)
  refine q_lp (head := 2) (n) (fun i => [(0, .ref h), (1, .int b), (2, .int (nI i))]) (fun i => anyB (fun i => decide (fb i = b)) i = false) (0) (by omega) (rfl) (q_hl (lv_sub (l' := [(0, .ref h), (1, .int b), (2, .int 0)]) hl [1, 2, 0] rfl) (q_ck (q_ck (q_ce (by rfl) (rfl))))) ?_ ?_
  · intro i hi_i hI_i ih_i ls hl
    have hl : lv_has ls 3 [(0, .ref h), (1, .int b), (2, .int (nI i))] := hl
    refine lv_iload_n hx hb dX0_isBibTaken_2 rfl (lv_at hl 2 rfl) ?_
    refine lv_aload_n hx hb dX0_isBibTaken_3 rfl (lv_at hl 0 rfl) ?_
    refine va_get (D := (dC, dI)) (ci := 0) (v := .int (nI n)) (C := RX0) (T := TX0) (N := 8) hx hb hts hin hown hK hP 0 rfl rfl 0 (by decide) hf_7 (fun _ h9 => h9) rfl dX0_isBibTaken_4 ?_
    refine lv_icmp_ge (tgt := 28) hx hb dX0_isBibTaken_7 (by decide) (fun c_1 => absurd c_1 (nI_ge hi_i (by omega))) (fun c_1 => ?_)
    refine lv_aload_n hx hb dX0_isBibTaken_10 rfl (lv_at hl 0 rfl) ?_
    refine va_get (D := (dC, dI)) (ci := 0) (v := .ref qb) (C := RX0) (T := TX0) (N := 8) hx hb hts hin hown hK hP 0 rfl rfl 3 (by decide) hf_19 (fun _ h9 => h9) rfl dX0_isBibTaken_11 ?_
    refine lv_iload_n hx hb dX0_isBibTaken_14 rfl (lv_at hl 2 rfl) ?_
    refine q_ald (n := 8) (k := i) hx hb hK hP 1 0 rfl rfl (by omega) (by decide) dX0_isBibTaken_15 ?_
    refine lv_iload_n hx hb dX0_isBibTaken_16 rfl (lv_at hl 1 rfl) ?_
    refine lv_icmp_ne (tgt := 22) hx hb dX0_isBibTaken_17 (by decide) (fun c_2 => ?_) (fun c_2 => ?_)
    · skip
      refine lv_iinc (v := (nI (i + 1))) (lv' := [(2, .int (nI (i + 1))), (0, .ref h), (1, .int b)]) hx hb dX0_isBibTaken_22 hl (k := 2) rfl (by exact nI_1 _) (by decide) rfl (fun ls hl => ?_)
      refine lv_goto (tgt := 2) hx hb dX0_isBibTaken_25 (by decide) ?_
      exact ih_i (by simp [anyB, hI_i, c_2]) ls (lv_sub (l' := [(0, .ref h), (1, .int b), (2, .int (nI (i + 1)))]) hl [1, 2, 0] rfl)
    · skip
      refine lv_iconst (v := 1) hx hb dX0_isBibTaken_20 (by decide) ?_
      exact q_rb hx hb hr hlk (by simp [b2i, anyB_of (q := fun i => decide (fb i = b)) hi_i (by simp [c_2])]) dX0_isBibTaken_21
  · intro hI_i ls hl
    have hl : lv_has ls 3 [(0, .ref h), (1, .int b), (2, .int (nI n))] := hl
    refine lv_iload_n hx hb dX0_isBibTaken_2 rfl (lv_at hl 2 rfl) ?_
    refine lv_aload_n hx hb dX0_isBibTaken_3 rfl (lv_at hl 0 rfl) ?_
    refine va_get (D := (dC, dI)) (ci := 0) (v := .int (nI n)) (C := RX0) (T := TX0) (N := 8) hx hb hts hin hown hK hP 0 rfl rfl 0 (by decide) hf_7 (fun _ h9 => h9) rfl dX0_isBibTaken_4 ?_
    refine lv_icmp_ge (tgt := 28) hx hb dX0_isBibTaken_7 (by decide) (fun c_3 => ?_) (fun c_3 => absurd (nI_le (Nat.le_refl n) (by omega)) c_3)
    refine lv_iconst (v := 0) hx hb dX0_isBibTaken_28 (by decide) ?_
    exact q_rb hx hb hr hlk (by simp [b2i, hI_i]) dX0_isBibTaken_29

theorem hdX0_valueOf : yX0_valueOf.cls = RX0 ∧ yX0_valueOf.cls ≠ "java/lang/invoke/MethodHandle" ∧ yX0_valueOf.cls ≠ "java/lang/invoke/VarHandle" ∧ (parseMethodDescriptor yX0_valueOf.desc).map (fun d => d.parameters.length) = some 3 := by decide +kernel
set_option maxHeartbeats 4000000 in
set_option maxRecDepth 100000 in
theorem mX0_valueOf (l : Launch) (dC : Nat → ClassId) (dI : Nat → Nat → Nat) (h qb qj qm qw qr : Nat) (cA : ClassId) (n : Nat) (rec lim : Int32) (fb fj fm fw fr : Nat → Int32) (w : Int32) (j : Nat) (r : Nat) (hj : j < 8) (hr6 : r < 6) : Met l yX0_valueOf wsX0_valueOf ({ frames := 1, cells := 0, slots := 0, locals := 21 }) (va_Pc [.ref h, .int w, .int (nI j), .int (nI r)] (fun U => va_P (dC, dI) vwCl (wX h qb qj qm qw qr cA (nI n) rec lim fb fj fm fw fr) U.heap ∧ va_K (dC, dI) vwCl [(cA, .int)] U)) (QcRead (vlu (mk fm) (mk fw) w j r)) 0 0 (fun _ => False) := by
  refine Met.ofW (cc := cX0_valueOf) (maxL := 4) (ret := (some .int)) (by decide) rfl ?_
  intro p e s m args below meth c s₁ B hml hv
  obtain ⟨rfl, hP, hK⟩ := hv
  have hx := B.exec
  have hb := B.bytes
  have hr := B.returns
  have hts := atoms_spec (ws := wsX0_valueOf) B.pre
  have hown : s.vm.findClass RX0 = some m.cls := findClass_of_methodNamed B.named
  have hlk := B.notSynchronized
  have hin : ∀ w ∈ wsX00, w ∈ wsX0_valueOf := fun w h => List.mem_cons_of_mem _ (List.mem_append_right _ h)
  have hf_26 := hts (.fieldLink RX0 26 "JumpBoard" "marks" "[I") (by decide +kernel)
  have hf_29 := hts (.fieldLink RX0 29 "JumpBoard" "winds" "[I") (by decide +kernel)
  have hl := lv_entry ([.ref h, .int w, .int (nI j), .int (nI r)]) (n := 4) (Nat.le_of_ble_eq_true rfl)
  rw [lg_entry_eq]
  generalize (lg_sl ([.ref h, .int w, .int (nI j), .int (nI r)]) ++ List.replicate (4 - (lg_sl ([.ref h, .int w, .int (nI j), .int (nI r)])).length) Slot.unset).toArray = ls at hl ⊢
  have hl : lv_has ls 4 [(0, .ref h), (1, .int w), (2, .int (nI j)), (3, .int (nI r))] := hl
  refine lv_iload_n hx hb dX0_valueOf_0 rfl (lv_at hl 1 rfl) ?_
  refine lv_if_ne (tgt := 17) hx hb dX0_valueOf_1 (by decide) (fun c_1 => ?_) (fun c_1 => ?_)
  · skip
    refine lv_aload_n hx hb dX0_valueOf_17 rfl (lv_at hl 0 rfl) ?_
    refine va_get (D := (dC, dI)) (ci := 0) (v := .ref qw) (C := RX0) (T := TX0) (N := 8) hx hb hts hin hown hK hP 0 rfl rfl 6 (by decide) hf_29 (fun _ h9 => h9) rfl dX0_valueOf_18 ?_
    refine lv_iload_n hx hb dX0_valueOf_21 rfl (lv_at hl 2 rfl) ?_
    refine lv_iload_n hx hb dX0_valueOf_22 rfl (lv_at hl 3 rfl) ?_
    refine q_cs [.int (nI j), .int (nI r)] (rest := [.ref qw]) ⟨hx, hb, hml, hown, hts⟩ (mX0_at l j r) gX0_valueOf_X0_at rfl rfl rfl hdX0_at ⟨Nat.le_of_ble_eq_true rfl, Nat.le_of_ble_eq_true rfl⟩ rfl hl.1 rfl (Nat.le_of_ble_eq_true rfl) dX0_valueOf_23 ⟨Nat.zero_le _, Nat.zero_le _⟩ ?_
    refine q_ald (n := 48) (k := (6 * j + r)) hx hb hK hP 4 0 rfl rfl (by omega) (by decide) dX0_valueOf_26 ?_
    exact q_ri hx hb hr hlk (by simp [vlu, mk, c_1]) dX0_valueOf_27
  · skip
    refine lv_aload_n hx hb dX0_valueOf_4 rfl (lv_at hl 0 rfl) ?_
    refine va_get (D := (dC, dI)) (ci := 0) (v := .ref qm) (C := RX0) (T := TX0) (N := 8) hx hb hts hin hown hK hP 0 rfl rfl 5 (by decide) hf_26 (fun _ h9 => h9) rfl dX0_valueOf_5 ?_
    refine lv_iload_n hx hb dX0_valueOf_8 rfl (lv_at hl 2 rfl) ?_
    refine lv_iload_n hx hb dX0_valueOf_9 rfl (lv_at hl 3 rfl) ?_
    refine q_cs [.int (nI j), .int (nI r)] (rest := [.ref qm]) ⟨hx, hb, hml, hown, hts⟩ (mX0_at l j r) gX0_valueOf_X0_at rfl rfl rfl hdX0_at ⟨Nat.le_of_ble_eq_true rfl, Nat.le_of_ble_eq_true rfl⟩ rfl hl.1 rfl (Nat.le_of_ble_eq_true rfl) dX0_valueOf_10 ⟨Nat.zero_le _, Nat.zero_le _⟩ ?_
    refine q_ald (n := 48) (k := (6 * j + r)) hx hb hK hP 3 0 rfl rfl (by omega) (by decide) dX0_valueOf_13 ?_
    refine lv_goto (tgt := 27) hx hb dX0_valueOf_14 (by decide) ?_
    exact q_ri hx hb hr hlk (by simp [vlu, mk, c_1]) dX0_valueOf_27

theorem hdX0_isLegal : yX0_isLegal.cls = RX0 ∧ yX0_isLegal.cls ≠ "java/lang/invoke/MethodHandle" ∧ yX0_isLegal.cls ≠ "java/lang/invoke/VarHandle" ∧ (parseMethodDescriptor yX0_isLegal.desc).map (fun d => d.parameters.length) = some 2 := by decide +kernel
set_option maxHeartbeats 4000000 in
set_option maxRecDepth 100000 in
theorem mX0_isLegal (l : Launch) (dC : Nat → ClassId) (dI : Nat → Nat → Nat) (h qb qj qm qw qr : Nat) (cA : ClassId) (n : Nat) (rec lim : Int32) (fb fj fm fw fr : Nat → Int32) (j : Nat) (r : Nat) (hj : j < 8) (hr6 : r < 6) : Met l yX0_isLegal wsX0_isLegal ({ frames := 2, cells := 0, slots := 0, locals := 45 }) (va_Pc [.ref h, .int (nI j), .int (nI r)] (fun U => va_P (dC, dI) vwCl (wX h qb qj qm qw qr cA (nI n) rec lim fb fj fm fw fr) U.heap ∧ va_K (dC, dI) vwCl [(cA, .int)] U)) (QcRead (b2i (lgl (mk fm) (mk fw) lim j r))) 0 0 (fun _ => False) := by
  refine Met.ofW (cc := cX0_isLegal) (maxL := 3) (ret := (some .boolean)) (by decide) rfl ?_
  intro p e s m args below meth c s₁ B hml hv
  obtain ⟨rfl, hP, hK⟩ := hv
  have hx := B.exec
  have hb := B.bytes
  have hr := B.returns
  have hts := atoms_spec (ws := wsX0_isLegal) B.pre
  have hown : s.vm.findClass RX0 = some m.cls := findClass_of_methodNamed B.named
  have hlk := B.notSynchronized
  have hin : ∀ w ∈ wsX00, w ∈ wsX0_isLegal := fun w h => List.mem_cons_of_mem _ (List.mem_append_right _ h)
  have hf_16 := hts (.fieldLink RX0 16 "JumpBoard" "limitWind" "I") (by decide +kernel)
  have hf_26 := hts (.fieldLink RX0 26 "JumpBoard" "marks" "[I") (by decide +kernel)
  have hf_29 := hts (.fieldLink RX0 29 "JumpBoard" "winds" "[I") (by decide +kernel)
  have hl := lv_entry ([.ref h, .int (nI j), .int (nI r)]) (n := 3) (Nat.le_of_ble_eq_true rfl)
  rw [lg_entry_eq]
  generalize (lg_sl ([.ref h, .int (nI j), .int (nI r)]) ++ List.replicate (3 - (lg_sl ([.ref h, .int (nI j), .int (nI r)])).length) Slot.unset).toArray = ls at hl ⊢
  have hl : lv_has ls 3 [(0, .ref h), (1, .int (nI j)), (2, .int (nI r))] := hl
  refine lv_aload_n hx hb dX0_isLegal_0 rfl (lv_at hl 0 rfl) ?_
  refine va_get (D := (dC, dI)) (ci := 0) (v := .ref qm) (C := RX0) (T := TX0) (N := 8) hx hb hts hin hown hK hP 0 rfl rfl 5 (by decide) hf_26 (fun _ h9 => h9) rfl dX0_isLegal_1 ?_
  refine lv_iload_n hx hb dX0_isLegal_4 rfl (lv_at hl 1 rfl) ?_
  refine lv_iload_n hx hb dX0_isLegal_5 rfl (lv_at hl 2 rfl) ?_
  refine q_cs [.int (nI j), .int (nI r)] (rest := [.ref qm]) ⟨hx, hb, hml, hown, hts⟩ (mX0_at l j r) gX0_isLegal_X0_at rfl rfl rfl hdX0_at ⟨Nat.le_of_ble_eq_true rfl, Nat.le_of_ble_eq_true rfl⟩ rfl hl.1 rfl (Nat.le_of_ble_eq_true rfl) dX0_isLegal_6 ⟨Nat.zero_le _, Nat.zero_le _⟩ ?_
  refine q_ald (n := 48) (k := (6 * j + r)) hx hb hK hP 3 0 rfl rfl (by omega) (by decide) dX0_isLegal_9 ?_
  refine lv_if_eq (tgt := 39) hx hb dX0_isLegal_10 (by decide) (fun c_1 => ?_) (fun c_1 => ?_)
  · skip
    refine lv_iconst (v := 0) hx hb dX0_isLegal_39 (by decide) ?_
    exact q_rb hx hb hr hlk (by simp_all [lgl, mk, b2i]) dX0_isLegal_40
  · skip
    refine lv_iconst (v := 2) hx hb dX0_isLegal_13 (by decide) ?_
    refine lv_iconst (v := 1) hx hb dX0_isLegal_14 (by decide) ?_
    refine lv_aload_n hx hb dX0_isLegal_15 rfl (lv_at hl 0 rfl) ?_
    refine va_get (D := (dC, dI)) (ci := 0) (v := .ref qw) (C := RX0) (T := TX0) (N := 8) hx hb hts hin hown hK hP 0 rfl rfl 6 (by decide) hf_29 (fun _ h9 => h9) rfl dX0_isLegal_16 ?_
    refine lv_iload_n hx hb dX0_isLegal_19 rfl (lv_at hl 1 rfl) ?_
    refine lv_iload_n hx hb dX0_isLegal_20 rfl (lv_at hl 2 rfl) ?_
    refine q_cs [.int (nI j), .int (nI r)] (rest := [.ref qw, .int 1, .int 2]) ⟨hx, hb, hml, hown, hts⟩ (mX0_at l j r) gX0_isLegal_X0_at rfl rfl rfl hdX0_at ⟨Nat.le_of_ble_eq_true rfl, Nat.le_of_ble_eq_true rfl⟩ rfl hl.1 rfl (Nat.le_of_ble_eq_true rfl) dX0_isLegal_21 ⟨Nat.zero_le _, Nat.zero_le _⟩ ?_
    refine q_ald (n := 48) (k := (6 * j + r)) hx hb hK hP 4 0 rfl rfl (by omega) (by decide) dX0_isLegal_24 ?_
    refine lv_aload_n hx hb dX0_isLegal_25 rfl (lv_at hl 0 rfl) ?_
    refine va_get (D := (dC, dI)) (ci := 0) (v := .int lim) (C := RX0) (T := TX0) (N := 8) hx hb hts hin hown hK hP 0 rfl rfl 2 (by decide) hf_16 (fun _ h9 => h9) rfl dX0_isLegal_26 ?_
    refine q_cs [.int 2, .int 1, .int (fw (6 * j + r)), .int lim] (rest := []) ⟨hx, hb, hml, hown, hts⟩ (mX0_valueFits l 2 1 (fw (6 * j + r)) lim) gX0_isLegal_X0_valueFits rfl rfl rfl hdX0_valueFits ⟨Nat.le_of_ble_eq_true rfl, Nat.le_of_ble_eq_true rfl⟩ rfl hl.1 rfl (Nat.le_of_ble_eq_true rfl) dX0_isLegal_29 ⟨Nat.zero_le _, Nat.zero_le _⟩ ?_
    refine lv_if_ne (tgt := 39) hx hb dX0_isLegal_32 (by decide) (fun c_2 => ?_) (fun c_2 => ?_)
    · skip
      have c_2 : (fitv 2 1 (fw (6 * j + r)) lim) = true := b2i_n c_2
      refine lv_iconst (v := 0) hx hb dX0_isLegal_39 (by decide) ?_
      exact q_rb hx hb hr hlk (by simp_all [lgl, mk, b2i]) dX0_isLegal_40
    · skip
      have c_2 : (fitv 2 1 (fw (6 * j + r)) lim) = false := b2i_0 c_2
      refine lv_iconst (v := 1) hx hb dX0_isLegal_35 (by decide) ?_
      refine lv_goto (tgt := 40) hx hb dX0_isLegal_36 (by decide) ?_
      exact q_rb hx hb hr hlk (by simp_all [lgl, mk, b2i]) dX0_isLegal_40

theorem hdX0_bestOf : yX0_bestOf.cls = RX0 ∧ yX0_bestOf.cls ≠ "java/lang/invoke/MethodHandle" ∧ yX0_bestOf.cls ≠ "java/lang/invoke/VarHandle" ∧ (parseMethodDescriptor yX0_bestOf.desc).map (fun d => d.parameters.length) = some 1 := by decide +kernel
set_option maxHeartbeats 4000000 in
set_option maxRecDepth 100000 in
theorem mX0_bestOf (l : Launch) (dC : Nat → ClassId) (dI : Nat → Nat → Nat) (h qb qj qm qw qr : Nat) (cA : ClassId) (n : Nat) (rec lim : Int32) (fb fj fm fw fr : Nat → Int32) (j : Nat) (hj : j < 8) : Met l yX0_bestOf wsX0_bestOf ({ frames := 3, cells := 0, slots := 0, locals := 67 }) (va_Pc [.ref h, .int (nI j)] (fun U => va_P (dC, dI) vwCl (wX h qb qj qm qw qr cA (nI n) rec lim fb fj fm fw fr) U.heap ∧ va_K (dC, dI) vwCl [(cA, .int)] U)) (QcRead (bstU (lgl (mk fm) (mk fw) lim j) (mk fm j) 6)) 0 0 (fun _ => False) := by
  refine Met.ofW (cc := cX0_bestOf) (maxL := 4) (ret := (some .int)) (by decide) rfl ?_
  intro p e s m args below meth c s₁ B hml hv
  obtain ⟨rfl, hP, hK⟩ := hv
  have hx := B.exec
  have hb := B.bytes
  have hr := B.returns
  have hts := atoms_spec (ws := wsX0_bestOf) B.pre
  have hown : s.vm.findClass RX0 = some m.cls := findClass_of_methodNamed B.named
  have hlk := B.notSynchronized
  have hin : ∀ w ∈ wsX00, w ∈ wsX0_bestOf := fun w h => List.mem_cons_of_mem _ (List.mem_append_right _ h)
  have hf_26 := hts (.fieldLink RX0 26 "JumpBoard" "marks" "[I") (by decide +kernel)
  have hl := lv_entry ([.ref h, .int (nI j)]) (n := 4) (Nat.le_of_ble_eq_true rfl)
  rw [lg_entry_eq]
  generalize (lg_sl ([.ref h, .int (nI j)]) ++ List.replicate (4 - (lg_sl ([.ref h, .int (nI j)])).length) Slot.unset).toArray = ls at hl ⊢
  have hl : lv_has ls 4 [(0, .ref h), (1, .int (nI j))] := hl
  refine lv_iconst (v := 0) hx hb dX0_bestOf_0 (by decide) ?_
  refine lv_istore_n (lv' := [(2, .int 0), (0, .ref h), (1, .int (nI j))]) hx hb dX0_bestOf_1 rfl hl (by decide) rfl (fun ls hl => ?_)
  refine lv_iconst (v := 0) hx hb dX0_bestOf_2 (by decide) ?_
  refine lv_istore_n (lv' := [(3, .int 0), (2, .int 0), (0, .ref h), (1, .int (nI j))]) hx hb dX0_bestOf_3 rfl hl (by decide) rfl (fun ls hl => ?_)
  refine q_lp (head := 4) (6) (fun i => [(0, .ref h), (1, .int (nI j)), (2, .int (bstU (lgl (mk fm) (mk fw) lim j) (mk fm j) i)), (3, .int (nI i))]) (fun i => True) (0) (by omega) (trivial) (q_hl (lv_sub (l' := [(0, .ref h), (1, .int (nI j)), (2, .int 0), (3, .int 0)]) hl [2, 3, 1, 0] rfl) (q_ck (q_ck (q_ce (by rfl) (q_ce (by rfl) (rfl)))))) ?_ ?_
  · intro i hi_i hI_i ih_i ls hl
    have hl : lv_has ls 4 [(0, .ref h), (1, .int (nI j)), (2, .int (bstU (lgl (mk fm) (mk fw) lim j) (mk fm j) i)), (3, .int (nI i))] := hl
    refine lv_iload_n hx hb dX0_bestOf_4 rfl (lv_at hl 3 rfl) ?_
    refine lv_bipush (v := 6) hx hb dX0_bestOf_5 (by decide) ?_
    refine lv_icmp_ge (tgt := 40) hx hb dX0_bestOf_7 (by decide) (fun c_1 => absurd c_1 (nI_ge (b := 6) hi_i (by decide))) (fun c_1 => ?_)
    refine lv_aload_n hx hb dX0_bestOf_10 rfl (lv_at hl 0 rfl) ?_
    refine lv_iload_n hx hb dX0_bestOf_11 rfl (lv_at hl 1 rfl) ?_
    refine lv_iload_n hx hb dX0_bestOf_12 rfl (lv_at hl 3 rfl) ?_
    refine q_cv [.int (nI j), .int (nI i)] (rest := []) ⟨hx, hb, hml, hown, hts⟩ (mX0_isLegal l dC dI h qb qj qm qw qr cA n rec lim fb fj fm fw fr j i (by omega) (by omega)) gX0_bestOf_X0_isLegal rfl rfl rfl hdX0_isLegal ⟨Nat.le_of_ble_eq_true rfl, Nat.le_of_ble_eq_true rfl⟩ rfl hK hP rfl rfl hl.1 rfl (Nat.le_of_ble_eq_true rfl) dX0_bestOf_13 ⟨Nat.zero_le _, Nat.zero_le _⟩ ?_
    refine lv_if_eq (tgt := 34) hx hb dX0_bestOf_16 (by decide) (fun c_2 => ?_) (fun c_2 => ?_)
    · skip
      have c_2 : (lgl (mk fm) (mk fw) lim j i) = false := b2i_0 c_2
      refine lv_iinc (v := (nI (i + 1))) (lv' := [(3, .int (nI (i + 1))), (0, .ref h), (1, .int (nI j)), (2, .int (bstU (lgl (mk fm) (mk fw) lim j) (mk fm j) i))]) hx hb dX0_bestOf_34 hl (k := 3) rfl (by exact nI_1 _) (by decide) rfl (fun ls hl => ?_)
      refine lv_goto (tgt := 4) hx hb dX0_bestOf_37 (by decide) ?_
      exact ih_i (by exact trivial) ls (q_hl (lv_sub (l' := [(0, .ref h), (1, .int (nI j)), (2, .int (bstU (lgl (mk fm) (mk fw) lim j) (mk fm j) i)), (3, .int (nI (i + 1)))]) hl [1, 2, 3, 0] rfl) (q_ck (q_ck (q_ce (by simp [bstU, mk, c_2] <;> rfl) (q_ck (rfl))))))
    · skip
      have c_2 : (lgl (mk fm) (mk fw) lim j i) = true := b2i_n c_2
      refine lv_iload_n hx hb dX0_bestOf_19 rfl (lv_at hl 2 rfl) ?_
      refine lv_aload_n hx hb dX0_bestOf_20 rfl (lv_at hl 0 rfl) ?_
      refine va_get (D := (dC, dI)) (ci := 0) (v := .ref qm) (C := RX0) (T := TX0) (N := 8) hx hb hts hin hown hK hP 0 rfl rfl 5 (by decide) hf_26 (fun _ h9 => h9) rfl dX0_bestOf_21 ?_
      refine lv_iload_n hx hb dX0_bestOf_24 rfl (lv_at hl 1 rfl) ?_
      refine lv_iload_n hx hb dX0_bestOf_25 rfl (lv_at hl 3 rfl) ?_
      refine q_cs [.int (nI j), .int (nI i)] (rest := [.ref qm, .int (bstU (lgl (mk fm) (mk fw) lim j) (mk fm j) i)]) ⟨hx, hb, hml, hown, hts⟩ (mX0_at l j i) gX0_bestOf_X0_at rfl rfl rfl hdX0_at ⟨Nat.le_of_ble_eq_true rfl, Nat.le_of_ble_eq_true rfl⟩ rfl hl.1 rfl (Nat.le_of_ble_eq_true rfl) dX0_bestOf_26 ⟨Nat.zero_le _, Nat.zero_le _⟩ ?_
      refine q_ald (n := 48) (k := (6 * j + i)) hx hb hK hP 3 0 rfl rfl (by omega) (by decide) dX0_bestOf_29 ?_
      refine va_mmax (rest := []) hx hb (hml.trans hl.1.symm) hown (hts (.methodLink RX0 72 Lib.Math.max.name) (by decide +kernel)) (hts (.static Lib.Math.max.name) (by decide +kernel)) (hts (.initialized "java/lang/Math") (by decide +kernel)) (hts (.code Lib.Math.max.name Lib.Math.max.code 2 (some .int)) (by decide +kernel)) (Nat.le_of_ble_eq_true rfl) (Nat.le_of_ble_eq_true rfl) (Nat.zero_le _) (Nat.zero_le _) dX0_bestOf_30 ?_
      refine lv_istore_n (lv' := [(2, .int (if (bstU (lgl (mk fm) (mk fw) lim j) (mk fm j) i) < (fm (6 * j + i)) then (fm (6 * j + i)) else (bstU (lgl (mk fm) (mk fw) lim j) (mk fm j) i))), (0, .ref h), (1, .int (nI j)), (3, .int (nI i))]) hx hb dX0_bestOf_33 rfl hl (by decide) rfl (fun ls hl => ?_)
      refine lv_iinc (v := (nI (i + 1))) (lv' := [(3, .int (nI (i + 1))), (2, .int (if (bstU (lgl (mk fm) (mk fw) lim j) (mk fm j) i) < (fm (6 * j + i)) then (fm (6 * j + i)) else (bstU (lgl (mk fm) (mk fw) lim j) (mk fm j) i))), (0, .ref h), (1, .int (nI j))]) hx hb dX0_bestOf_34 hl (k := 3) rfl (by exact nI_1 _) (by decide) rfl (fun ls hl => ?_)
      refine lv_goto (tgt := 4) hx hb dX0_bestOf_37 (by decide) ?_
      exact ih_i (by exact trivial) ls (q_hl (lv_sub (l' := [(0, .ref h), (1, .int (nI j)), (2, .int (if (bstU (lgl (mk fm) (mk fw) lim j) (mk fm j) i) < (fm (6 * j + i)) then (fm (6 * j + i)) else (bstU (lgl (mk fm) (mk fw) lim j) (mk fm j) i))), (3, .int (nI (i + 1)))]) hl [2, 3, 1, 0] rfl) (q_ck (q_ck (q_ce (by simp [bstU, mk, c_2] <;> rfl) (q_ck (rfl))))))
  · intro hI_i ls hl
    have hl : lv_has ls 4 [(0, .ref h), (1, .int (nI j)), (2, .int (bstU (lgl (mk fm) (mk fw) lim j) (mk fm j) 6)), (3, .int (nI 6))] := hl
    refine lv_iload_n hx hb dX0_bestOf_4 rfl (lv_at hl 3 rfl) ?_
    refine lv_bipush (v := 6) hx hb dX0_bestOf_5 (by decide) ?_
    refine lv_icmp_ge (tgt := 40) hx hb dX0_bestOf_7 (by decide) (fun c_3 => ?_) (fun c_3 => absurd (by decide) c_3)
    refine lv_iload_n hx hb dX0_bestOf_40 rfl (lv_at hl 2 rfl) ?_
    exact q_ri hx hb hr hlk (by rfl) dX0_bestOf_41

theorem hdX0_isAhead : yX0_isAhead.cls = RX0 ∧ yX0_isAhead.cls ≠ "java/lang/invoke/MethodHandle" ∧ yX0_isAhead.cls ≠ "java/lang/invoke/VarHandle" ∧ (parseMethodDescriptor yX0_isAhead.desc).map (fun d => d.parameters.length) = some 2 := by decide +kernel
set_option maxHeartbeats 4000000 in
set_option maxRecDepth 100000 in
theorem mX0_isAhead (l : Launch) (dC : Nat → ClassId) (dI : Nat → Nat → Nat) (h qb qj qm qw qr : Nat) (cA : ClassId) (n : Nat) (rec lim : Int32) (fb fj fm fw fr : Nat → Int32) (a : Nat) (b : Nat) (ha : a < 8) (hb8 : b < 8) : Met l yX0_isAhead wsX0_isAhead ({ frames := 1, cells := 0, slots := 0, locals := 21 }) (va_Pc [.ref h, .int (nI a), .int (nI b)] (fun U => va_P (dC, dI) vwCl (wX h qb qj qm qw qr cA (nI n) rec lim fb fj fm fw fr) U.heap ∧ va_K (dC, dI) vwCl [(cA, .int)] U)) (QcRead (b2i (lx6 (mk fr a) (mk fr b)))) 0 0 (fun _ => False) := by
  refine Met.ofW (cc := cX0_isAhead) (maxL := 6) (ret := (some .boolean)) (by decide) rfl ?_
  intro p e s m args below meth c s₁ B hml hv
  obtain ⟨rfl, hP, hK⟩ := hv
  have hx := B.exec
  have hb := B.bytes
  have hr := B.returns
  have hts := atoms_spec (ws := wsX0_isAhead) B.pre
  have hown : s.vm.findClass RX0 = some m.cls := findClass_of_methodNamed B.named
  have hlk := B.notSynchronized
  have hin : ∀ w ∈ wsX00, w ∈ wsX0_isAhead := fun w h => List.mem_cons_of_mem _ (List.mem_append_right _ h)
  have hf_32 := hts (.fieldLink RX0 32 "JumpBoard" "rows" "[I") (by decide +kernel)
  have hl := lv_entry ([.ref h, .int (nI a), .int (nI b)]) (n := 6) (Nat.le_of_ble_eq_true rfl)
  rw [lg_entry_eq]
  generalize (lg_sl ([.ref h, .int (nI a), .int (nI b)]) ++ List.replicate (6 - (lg_sl ([.ref h, .int (nI a), .int (nI b)])).length) Slot.unset).toArray = ls at hl ⊢
  have hl : lv_has ls 6 [(0, .ref h), (1, .int (nI a)), (2, .int (nI b))] := hl
  refine lv_iconst (v := 0) hx hb dX0_isAhead_0 (by decide) ?_
  refine lv_istore_n (lv' := [(3, .int 0), (0, .ref h), (1, .int (nI a)), (2, .int (nI b))]) hx hb dX0_isAhead_1 rfl hl (by decide) rfl (fun ls hl => ?_)
  refine q_lp (head := 2) (6) (fun i => [(0, .ref h), (1, .int (nI a)), (2, .int (nI b)), (3, .int (nI i))]) (fun i => lx6 (mk fr a) (mk fr b) = lxF (mk fr a) (mk fr b) (6 - i) i) (0) (by omega) (rfl) (q_hl (lv_sub (l' := [(0, .ref h), (1, .int (nI a)), (2, .int (nI b)), (3, .int 0)]) hl [1, 2, 3, 0] rfl) (q_ck (q_ck (q_ck (q_ce (by rfl) (rfl)))))) ?_ ?_
  · intro i hi_i hI_i ih_i ls hl
    have hl : lv_has ls 6 [(0, .ref h), (1, .int (nI a)), (2, .int (nI b)), (3, .int (nI i))] := hl
    refine lv_iload_n hx hb dX0_isAhead_2 rfl (lv_at hl 3 rfl) ?_
    refine lv_bipush (v := 6) hx hb dX0_isAhead_3 (by decide) ?_
    refine lv_icmp_ge (tgt := 58) hx hb dX0_isAhead_5 (by decide) (fun c_1 => absurd c_1 (nI_ge (b := 6) hi_i (by decide))) (fun c_1 => ?_)
    refine lv_aload_n hx hb dX0_isAhead_8 rfl (lv_at hl 0 rfl) ?_
    refine va_get (D := (dC, dI)) (ci := 0) (v := .ref qr) (C := RX0) (T := TX0) (N := 8) hx hb hts hin hown hK hP 0 rfl rfl 7 (by decide) hf_32 (fun _ h9 => h9) rfl dX0_isAhead_9 ?_
    refine lv_iload_n hx hb dX0_isAhead_12 rfl (lv_at hl 1 rfl) ?_
    refine lv_iload_n hx hb dX0_isAhead_13 rfl (lv_at hl 3 rfl) ?_
    refine q_cs [.int (nI a), .int (nI i)] (rest := [.ref qr]) ⟨hx, hb, hml, hown, hts⟩ (mX0_at l a i) gX0_isAhead_X0_at rfl rfl rfl hdX0_at ⟨Nat.le_of_ble_eq_true rfl, Nat.le_of_ble_eq_true rfl⟩ rfl hl.1 rfl (Nat.le_of_ble_eq_true rfl) dX0_isAhead_14 ⟨Nat.zero_le _, Nat.zero_le _⟩ ?_
    refine q_ald (n := 48) (k := (6 * a + i)) hx hb hK hP 5 0 rfl rfl (by omega) (by decide) dX0_isAhead_17 ?_
    refine lv_istore (lv' := [(4, .int (fr (6 * a + i))), (0, .ref h), (1, .int (nI a)), (2, .int (nI b)), (3, .int (nI i))]) hx hb dX0_isAhead_18 hl (by decide) rfl (fun ls hl => ?_)
    refine lv_aload_n hx hb dX0_isAhead_20 rfl (lv_at hl 1 rfl) ?_
    refine va_get (D := (dC, dI)) (ci := 0) (v := .ref qr) (C := RX0) (T := TX0) (N := 8) hx hb hts hin hown hK hP 0 rfl rfl 7 (by decide) hf_32 (fun _ h9 => h9) rfl dX0_isAhead_21 ?_
    refine lv_iload_n hx hb dX0_isAhead_24 rfl (lv_at hl 3 rfl) ?_
    refine lv_iload_n hx hb dX0_isAhead_25 rfl (lv_at hl 4 rfl) ?_
    refine q_cs [.int (nI b), .int (nI i)] (rest := [.ref qr]) ⟨hx, hb, hml, hown, hts⟩ (mX0_at l b i) gX0_isAhead_X0_at rfl rfl rfl hdX0_at ⟨Nat.le_of_ble_eq_true rfl, Nat.le_of_ble_eq_true rfl⟩ rfl hl.1 rfl (Nat.le_of_ble_eq_true rfl) dX0_isAhead_26 ⟨Nat.zero_le _, Nat.zero_le _⟩ ?_
    refine q_ald (n := 48) (k := (6 * b + i)) hx hb hK hP 5 0 rfl rfl (by omega) (by decide) dX0_isAhead_29 ?_
    refine lv_istore (lv' := [(5, .int (fr (6 * b + i))), (4, .int (fr (6 * a + i))), (0, .ref h), (1, .int (nI a)), (2, .int (nI b)), (3, .int (nI i))]) hx hb dX0_isAhead_30 hl (by decide) rfl (fun ls hl => ?_)
    refine lv_iload hx hb dX0_isAhead_32 (lv_at hl 1 rfl) ?_
    refine lv_iload hx hb dX0_isAhead_34 (lv_at hl 0 rfl) ?_
    refine lv_icmp_eq (tgt := 52) hx hb dX0_isAhead_36 (by decide) (fun c_2 => ?_) (fun c_2 => ?_)
    · skip
      refine lv_iinc (v := (nI (i + 1))) (lv' := [(3, .int (nI (i + 1))), (5, .int (fr (6 * b + i))), (4, .int (fr (6 * a + i))), (0, .ref h), (1, .int (nI a)), (2, .int (nI b))]) hx hb dX0_isAhead_52 hl (k := 5) rfl (by exact nI_1 _) (by decide) rfl (fun ls hl => ?_)
      refine lv_goto (tgt := 2) hx hb dX0_isAhead_55 (by decide) ?_
      exact ih_i (by rw [hI_i, lxF_eq hi_i]; simp [mk, c_2]) ls (lv_sub (l' := [(0, .ref h), (1, .int (nI a)), (2, .int (nI b)), (3, .int (nI (i + 1)))]) hl [3, 4, 5, 0] rfl)
    · skip
      refine lv_iload hx hb dX0_isAhead_39 (lv_at hl 1 rfl) ?_
      refine lv_iload hx hb dX0_isAhead_41 (lv_at hl 0 rfl) ?_
      refine lv_icmp_le (tgt := 50) hx hb dX0_isAhead_43 (by decide) (fun c_3 => ?_) (fun c_3 => ?_)
      · skip
        refine lv_iconst (v := 0) hx hb dX0_isAhead_50 (by decide) ?_
        exact q_rb hx hb hr hlk (by rw [hI_i, lxF_eq hi_i, if_neg (show ¬ mk fr a i = mk fr b i from c_2)]; first | exact (b2i_dle c_3).symm | exact (b2i_dgt c_3).symm) dX0_isAhead_51
      · skip
        refine lv_iconst (v := 1) hx hb dX0_isAhead_46 (by decide) ?_
        refine lv_goto (tgt := 51) hx hb dX0_isAhead_47 (by decide) ?_
        exact q_rb hx hb hr hlk (by rw [hI_i, lxF_eq hi_i, if_neg (show ¬ mk fr a i = mk fr b i from c_2)]; first | exact (b2i_dle c_3).symm | exact (b2i_dgt c_3).symm) dX0_isAhead_51
  · intro hI_i ls hl
    have hl : lv_has ls 6 [(0, .ref h), (1, .int (nI a)), (2, .int (nI b)), (3, .int (nI 6))] := hl
    refine lv_iload_n hx hb dX0_isAhead_2 rfl (lv_at hl 3 rfl) ?_
    refine lv_bipush (v := 6) hx hb dX0_isAhead_3 (by decide) ?_
    refine lv_icmp_ge (tgt := 58) hx hb dX0_isAhead_5 (by decide) (fun c_4 => ?_) (fun c_4 => absurd (by decide) c_4)
    refine lv_iconst (v := 0) hx hb dX0_isAhead_58 (by decide) ?_
    exact q_rb hx hb hr hlk (by rw [hI_i]; rfl) dX0_isAhead_59

theorem hdX0_jumpsBefore : yX0_jumpsBefore.cls = RX0 ∧ yX0_jumpsBefore.cls ≠ "java/lang/invoke/MethodHandle" ∧ yX0_jumpsBefore.cls ≠ "java/lang/invoke/VarHandle" ∧ (parseMethodDescriptor yX0_jumpsBefore.desc).map (fun d => d.parameters.length) = some 2 := by decide +kernel
set_option maxHeartbeats 4000000 in
set_option maxRecDepth 100000 in
theorem mX0_jumpsBefore (l : Launch) (dC : Nat → ClassId) (dI : Nat → Nat → Nat) (h qb qj qm qw qr : Nat) (cA : ClassId) (n : Nat) (rec lim : Int32) (fb fj fm fw fr : Nat → Int32) (a : Nat) (b : Nat) (ha : a < 8) (hb8 : b < 8) : Met l yX0_jumpsBefore wsX0_jumpsBefore ({ frames := 2, cells := 0, slots := 0, locals := 46 }) (va_Pc [.ref h, .int (nI a), .int (nI b)] (fun U => va_P (dC, dI) vwCl (wX h qb qj qm qw qr cA (nI n) rec lim fb fj fm fw fr) U.heap ∧ va_K (dC, dI) vwCl [(cA, .int)] U)) (QcRead (b2i (befR (mk fr) a b))) 0 0 (fun _ => False) := by
  refine Met.ofW (cc := cX0_jumpsBefore) (maxL := 3) (ret := (some .boolean)) (by decide) rfl ?_
  intro p e s m args below meth c s₁ B hml hv
  obtain ⟨rfl, hP, hK⟩ := hv
  have hx := B.exec
  have hb := B.bytes
  have hr := B.returns
  have hts := atoms_spec (ws := wsX0_jumpsBefore) B.pre
  have hown : s.vm.findClass RX0 = some m.cls := findClass_of_methodNamed B.named
  have hlk := B.notSynchronized
  have hl := lv_entry ([.ref h, .int (nI a), .int (nI b)]) (n := 3) (Nat.le_of_ble_eq_true rfl)
  rw [lg_entry_eq]
  generalize (lg_sl ([.ref h, .int (nI a), .int (nI b)]) ++ List.replicate (3 - (lg_sl ([.ref h, .int (nI a), .int (nI b)])).length) Slot.unset).toArray = ls at hl ⊢
  have hl : lv_has ls 3 [(0, .ref h), (1, .int (nI a)), (2, .int (nI b))] := hl
  refine lv_aload_n hx hb dX0_jumpsBefore_0 rfl (lv_at hl 0 rfl) ?_
  refine lv_iload_n hx hb dX0_jumpsBefore_1 rfl (lv_at hl 2 rfl) ?_
  refine lv_iload_n hx hb dX0_jumpsBefore_2 rfl (lv_at hl 1 rfl) ?_
  refine q_cv [.int (nI b), .int (nI a)] (rest := []) ⟨hx, hb, hml, hown, hts⟩ (mX0_isAhead l dC dI h qb qj qm qw qr cA n rec lim fb fj fm fw fr b a (by omega) (by omega)) gX0_jumpsBefore_X0_isAhead rfl rfl rfl hdX0_isAhead ⟨Nat.le_of_ble_eq_true rfl, Nat.le_of_ble_eq_true rfl⟩ rfl hK hP rfl rfl hl.1 rfl (Nat.le_of_ble_eq_true rfl) dX0_jumpsBefore_3 ⟨Nat.zero_le _, Nat.zero_le _⟩ ?_
  refine lv_if_ne (tgt := 23) hx hb dX0_jumpsBefore_6 (by decide) (fun c_1 => ?_) (fun c_1 => ?_)
  · skip
    have c_1 : (lx6 (mk fr b) (mk fr a)) = true := b2i_n c_1
    refine lv_iconst (v := 1) hx hb dX0_jumpsBefore_23 (by decide) ?_
    refine lv_goto (tgt := 28) hx hb dX0_jumpsBefore_24 (by decide) ?_
    exact q_rb hx hb hr hlk (by simp [befR, b2i, c_1, ← nI_ltI (show a < 2 ^ 31 by omega) (show b < 2 ^ 31 by omega), Int32.not_le] <;> simp_all [Int32.not_le, Int32.not_lt]) dX0_jumpsBefore_28
  · skip
    have c_1 : (lx6 (mk fr b) (mk fr a)) = false := b2i_0 c_1
    refine lv_aload_n hx hb dX0_jumpsBefore_9 rfl (lv_at hl 0 rfl) ?_
    refine lv_iload_n hx hb dX0_jumpsBefore_10 rfl (lv_at hl 1 rfl) ?_
    refine lv_iload_n hx hb dX0_jumpsBefore_11 rfl (lv_at hl 2 rfl) ?_
    refine q_cv [.int (nI a), .int (nI b)] (rest := []) ⟨hx, hb, hml, hown, hts⟩ (mX0_isAhead l dC dI h qb qj qm qw qr cA n rec lim fb fj fm fw fr a b (by omega) (by omega)) gX0_jumpsBefore_X0_isAhead rfl rfl rfl hdX0_isAhead ⟨Nat.le_of_ble_eq_true rfl, Nat.le_of_ble_eq_true rfl⟩ rfl hK hP rfl rfl hl.1 rfl (Nat.le_of_ble_eq_true rfl) dX0_jumpsBefore_12 ⟨Nat.zero_le _, Nat.zero_le _⟩ ?_
    refine lv_if_ne (tgt := 27) hx hb dX0_jumpsBefore_15 (by decide) (fun c_2 => ?_) (fun c_2 => ?_)
    · skip
      have c_2 : (lx6 (mk fr a) (mk fr b)) = true := b2i_n c_2
      refine lv_iconst (v := 0) hx hb dX0_jumpsBefore_27 (by decide) ?_
      exact q_rb hx hb hr hlk (by simp [befR, b2i, c_1, c_2, ← nI_ltI (show a < 2 ^ 31 by omega) (show b < 2 ^ 31 by omega), Int32.not_le] <;> simp_all [Int32.not_le, Int32.not_lt]) dX0_jumpsBefore_28
    · skip
      have c_2 : (lx6 (mk fr a) (mk fr b)) = false := b2i_0 c_2
      refine lv_iload_n hx hb dX0_jumpsBefore_18 rfl (lv_at hl 1 rfl) ?_
      refine lv_iload_n hx hb dX0_jumpsBefore_19 rfl (lv_at hl 2 rfl) ?_
      refine lv_icmp_ge (tgt := 27) hx hb dX0_jumpsBefore_20 (by decide) (fun c_3 => ?_) (fun c_3 => ?_)
      · skip
        refine lv_iconst (v := 0) hx hb dX0_jumpsBefore_27 (by decide) ?_
        exact q_rb hx hb hr hlk (by simp [befR, b2i, c_1, c_2, c_3, ← nI_ltI (show a < 2 ^ 31 by omega) (show b < 2 ^ 31 by omega), Int32.not_le] <;> simp_all [Int32.not_le, Int32.not_lt]) dX0_jumpsBefore_28
      · skip
        refine lv_iconst (v := 1) hx hb dX0_jumpsBefore_23 (by decide) ?_
        refine lv_goto (tgt := 28) hx hb dX0_jumpsBefore_24 (by decide) ?_
        exact q_rb hx hb hr hlk (by simp [befR, b2i, c_1, c_2, c_3, ← nI_ltI (show a < 2 ^ 31 by omega) (show b < 2 ^ 31 by omega), Int32.not_le] <;> simp_all [Int32.not_le, Int32.not_lt]) dX0_jumpsBefore_28

theorem hdX0_howManyJumpBefore : yX0_howManyJumpBefore.cls = RX0 ∧ yX0_howManyJumpBefore.cls ≠ "java/lang/invoke/MethodHandle" ∧ yX0_howManyJumpBefore.cls ≠ "java/lang/invoke/VarHandle" ∧ (parseMethodDescriptor yX0_howManyJumpBefore.desc).map (fun d => d.parameters.length) = some 1 := by decide +kernel
set_option maxHeartbeats 4000000 in
set_option maxRecDepth 100000 in
theorem mX0_howManyJumpBefore (l : Launch) (dC : Nat → ClassId) (dI : Nat → Nat → Nat) (h qb qj qm qw qr : Nat) (cA : ClassId) (n : Nat) (rec lim : Int32) (fb fj fm fw fr : Nat → Int32) (j : Nat) (hn : n ≤ 8) (hj : j < 8) : Met l yX0_howManyJumpBefore wsX0_howManyJumpBefore ({ frames := 3, cells := 0, slots := 0, locals := 68 }) (va_Pc [.ref h, .int (nI j)] (fun U => va_P (dC, dI) vwCl (wX h qb qj qm qw qr cA (nI n) rec lim fb fj fm fw fr) U.heap ∧ va_K (dC, dI) vwCl [(cA, .int)] U)) (QcRead (nI (cntB (fun o => befR (mk fr) o j) n))) 0 0 (fun _ => False) := by
  refine Met.ofW (cc := cX0_howManyJumpBefore) (maxL := 4) (ret := (some .int)) (by decide) rfl ?_
  intro p e s m args below meth c s₁ B hml hv
  obtain ⟨rfl, hP, hK⟩ := hv
  have hx := B.exec
  have hb := B.bytes
  have hr := B.returns
  have hts := atoms_spec (ws := wsX0_howManyJumpBefore) B.pre
  have hown : s.vm.findClass RX0 = some m.cls := findClass_of_methodNamed B.named
  have hlk := B.notSynchronized
  have hin : ∀ w ∈ wsX00, w ∈ wsX0_howManyJumpBefore := fun w h => List.mem_cons_of_mem _ (List.mem_append_right _ h)
  have hf_7 := hts (.fieldLink RX0 7 "JumpBoard" "jumpers" "I") (by decide +kernel)
  have hl := lv_entry ([.ref h, .int (nI j)]) (n := 4) (Nat.le_of_ble_eq_true rfl)
  rw [lg_entry_eq]
  generalize (lg_sl ([.ref h, .int (nI j)]) ++ List.replicate (4 - (lg_sl ([.ref h, .int (nI j)])).length) Slot.unset).toArray = ls at hl ⊢
  have hl : lv_has ls 4 [(0, .ref h), (1, .int (nI j))] := hl
  refine lv_iconst (v := 0) hx hb dX0_howManyJumpBefore_0 (by decide) ?_
  refine lv_istore_n (lv' := [(2, .int 0), (0, .ref h), (1, .int (nI j))]) hx hb dX0_howManyJumpBefore_1 rfl hl (by decide) rfl (fun ls hl => ?_)
  refine lv_iconst (v := 0) hx hb dX0_howManyJumpBefore_2 (by decide) ?_
  refine lv_istore_n (lv' := [(3, .int 0), (2, .int 0), (0, .ref h), (1, .int (nI j))]) hx hb dX0_howManyJumpBefore_3 rfl hl (by decide) rfl (fun ls hl => ?_)
  refine q_lp (head := 4) (n) (fun i => [(0, .ref h), (1, .int (nI j)), (2, .int (nI (cntB (fun o => befR (mk fr) o j) i))), (3, .int (nI i))]) (fun i => True) (0) (by omega) (trivial) (q_hl (lv_sub (l' := [(0, .ref h), (1, .int (nI j)), (2, .int 0), (3, .int 0)]) hl [2, 3, 1, 0] rfl) (q_ck (q_ck (q_ce (by rfl) (q_ce (by rfl) (rfl)))))) ?_ ?_
  · intro i hi_i hI_i ih_i ls hl
    have hl : lv_has ls 4 [(0, .ref h), (1, .int (nI j)), (2, .int (nI (cntB (fun o => befR (mk fr) o j) i))), (3, .int (nI i))] := hl
    refine lv_iload_n hx hb dX0_howManyJumpBefore_4 rfl (lv_at hl 3 rfl) ?_
    refine lv_aload_n hx hb dX0_howManyJumpBefore_5 rfl (lv_at hl 0 rfl) ?_
    refine va_get (D := (dC, dI)) (ci := 0) (v := .int (nI n)) (C := RX0) (T := TX0) (N := 8) hx hb hts hin hown hK hP 0 rfl rfl 0 (by decide) hf_7 (fun _ h9 => h9) rfl dX0_howManyJumpBefore_6 ?_
    refine lv_icmp_ge (tgt := 30) hx hb dX0_howManyJumpBefore_9 (by decide) (fun c_1 => absurd c_1 (nI_ge hi_i (by omega))) (fun c_1 => ?_)
    refine lv_aload_n hx hb dX0_howManyJumpBefore_12 rfl (lv_at hl 0 rfl) ?_
    refine lv_iload_n hx hb dX0_howManyJumpBefore_13 rfl (lv_at hl 3 rfl) ?_
    refine lv_iload_n hx hb dX0_howManyJumpBefore_14 rfl (lv_at hl 1 rfl) ?_
    refine q_cv [.int (nI i), .int (nI j)] (rest := []) ⟨hx, hb, hml, hown, hts⟩ (mX0_jumpsBefore l dC dI h qb qj qm qw qr cA n rec lim fb fj fm fw fr i j (by omega) (by omega)) gX0_howManyJumpBefore_X0_jumpsBefore rfl rfl rfl hdX0_jumpsBefore ⟨Nat.le_of_ble_eq_true rfl, Nat.le_of_ble_eq_true rfl⟩ rfl hK hP rfl rfl hl.1 rfl (Nat.le_of_ble_eq_true rfl) dX0_howManyJumpBefore_15 ⟨Nat.zero_le _, Nat.zero_le _⟩ ?_
    refine lv_if_eq (tgt := 24) hx hb dX0_howManyJumpBefore_18 (by decide) (fun c_2 => ?_) (fun c_2 => ?_)
    · skip
      have c_2 : (befR (mk fr) i j) = false := b2i_0 c_2
      refine lv_iinc (v := (nI (i + 1))) (lv' := [(3, .int (nI (i + 1))), (0, .ref h), (1, .int (nI j)), (2, .int (nI (cntB (fun o => befR (mk fr) o j) i)))]) hx hb dX0_howManyJumpBefore_24 hl (k := 3) rfl (by exact nI_1 _) (by decide) rfl (fun ls hl => ?_)
      refine lv_goto (tgt := 4) hx hb dX0_howManyJumpBefore_27 (by decide) ?_
      exact ih_i (by exact trivial) ls (q_hl (lv_sub (l' := [(0, .ref h), (1, .int (nI j)), (2, .int (nI (cntB (fun o => befR (mk fr) o j) i))), (3, .int (nI (i + 1)))]) hl [1, 2, 3, 0] rfl) (q_ck (q_ck (q_ce (by simp [cntB, c_2]) (q_ck (rfl))))))
    · skip
      have c_2 : (befR (mk fr) i j) = true := b2i_n c_2
      refine lv_iinc (v := (nI ((cntB (fun o => befR (mk fr) o j) i) + 1))) (lv' := [(2, .int (nI ((cntB (fun o => befR (mk fr) o j) i) + 1))), (0, .ref h), (1, .int (nI j)), (3, .int (nI i))]) hx hb dX0_howManyJumpBefore_21 hl (k := 2) rfl (by exact nI_1 _) (by decide) rfl (fun ls hl => ?_)
      refine lv_iinc (v := (nI (i + 1))) (lv' := [(3, .int (nI (i + 1))), (2, .int (nI ((cntB (fun o => befR (mk fr) o j) i) + 1))), (0, .ref h), (1, .int (nI j))]) hx hb dX0_howManyJumpBefore_24 hl (k := 3) rfl (by exact nI_1 _) (by decide) rfl (fun ls hl => ?_)
      refine lv_goto (tgt := 4) hx hb dX0_howManyJumpBefore_27 (by decide) ?_
      exact ih_i (by exact trivial) ls (q_hl (lv_sub (l' := [(0, .ref h), (1, .int (nI j)), (2, .int (nI ((cntB (fun o => befR (mk fr) o j) i) + 1))), (3, .int (nI (i + 1)))]) hl [2, 3, 1, 0] rfl) (q_ck (q_ck (q_ce (by simp [cntB, c_2]) (q_ck (rfl))))))
  · intro hI_i ls hl
    have hl : lv_has ls 4 [(0, .ref h), (1, .int (nI j)), (2, .int (nI (cntB (fun o => befR (mk fr) o j) n))), (3, .int (nI n))] := hl
    refine lv_iload_n hx hb dX0_howManyJumpBefore_4 rfl (lv_at hl 3 rfl) ?_
    refine lv_aload_n hx hb dX0_howManyJumpBefore_5 rfl (lv_at hl 0 rfl) ?_
    refine va_get (D := (dC, dI)) (ci := 0) (v := .int (nI n)) (C := RX0) (T := TX0) (N := 8) hx hb hts hin hown hK hP 0 rfl rfl 0 (by decide) hf_7 (fun _ h9 => h9) rfl dX0_howManyJumpBefore_6 ?_
    refine lv_icmp_ge (tgt := 30) hx hb dX0_howManyJumpBefore_9 (by decide) (fun c_3 => ?_) (fun c_3 => absurd (nI_le (Nat.le_refl n) (by omega)) c_3)
    refine lv_iload_n hx hb dX0_howManyJumpBefore_30 rfl (lv_at hl 2 rfl) ?_
    exact q_ri hx hb hr hlk (by rfl) dX0_howManyJumpBefore_31

theorem hdX0_beatsEarlierRounds : yX0_beatsEarlierRounds.cls = RX0 ∧ yX0_beatsEarlierRounds.cls ≠ "java/lang/invoke/MethodHandle" ∧ yX0_beatsEarlierRounds.cls ≠ "java/lang/invoke/VarHandle" ∧ (parseMethodDescriptor yX0_beatsEarlierRounds.desc).map (fun d => d.parameters.length) = some 2 := by decide +kernel
set_option maxHeartbeats 4000000 in
set_option maxRecDepth 100000 in
theorem mX0_beatsEarlierRounds (l : Launch) (dC : Nat → ClassId) (dI : Nat → Nat → Nat) (h qb qj qm qw qr : Nat) (cA : ClassId) (n : Nat) (rec lim : Int32) (fb fj fm fw fr : Nat → Int32) (j : Nat) (r : Nat) (hj : j < 8) (hr6 : r < 6) : Met l yX0_beatsEarlierRounds wsX0_beatsEarlierRounds ({ frames := 2, cells := 0, slots := 0, locals := 45 }) (va_Pc [.ref h, .int (nI j), .int (nI r)] (fun U => va_P (dC, dI) vwCl (wX h qb qj qm qw qr cA (nI n) rec lim fb fj fm fw fr) U.heap ∧ va_K (dC, dI) vwCl [(cA, .int)] U)) (QcRead (b2i (bts (mk fm j) r))) 0 0 (fun _ => False) := by
  refine Met.ofW (cc := cX0_beatsEarlierRounds) (maxL := 5) (ret := (some .boolean)) (by decide) rfl ?_
  intro p e s m args below meth c s₁ B hml hv
  obtain ⟨rfl, hP, hK⟩ := hv
  have hx := B.exec
  have hb := B.bytes
  have hr := B.returns
  have hts := atoms_spec (ws := wsX0_beatsEarlierRounds) B.pre
  have hown : s.vm.findClass RX0 = some m.cls := findClass_of_methodNamed B.named
  have hlk := B.notSynchronized
  have hin : ∀ w ∈ wsX00, w ∈ wsX0_beatsEarlierRounds := fun w h => List.mem_cons_of_mem _ (List.mem_append_right _ h)
  have hf_26 := hts (.fieldLink RX0 26 "JumpBoard" "marks" "[I") (by decide +kernel)
  have hl := lv_entry ([.ref h, .int (nI j), .int (nI r)]) (n := 5) (Nat.le_of_ble_eq_true rfl)
  rw [lg_entry_eq]
  generalize (lg_sl ([.ref h, .int (nI j), .int (nI r)]) ++ List.replicate (5 - (lg_sl ([.ref h, .int (nI j), .int (nI r)])).length) Slot.unset).toArray = ls at hl ⊢
  have hl : lv_has ls 5 [(0, .ref h), (1, .int (nI j)), (2, .int (nI r))] := hl
  refine lv_aload_n hx hb dX0_beatsEarlierRounds_0 rfl (lv_at hl 0 rfl) ?_
  refine va_get (D := (dC, dI)) (ci := 0) (v := .ref qm) (C := RX0) (T := TX0) (N := 8) hx hb hts hin hown hK hP 0 rfl rfl 5 (by decide) hf_26 (fun _ h9 => h9) rfl dX0_beatsEarlierRounds_1 ?_
  refine lv_iload_n hx hb dX0_beatsEarlierRounds_4 rfl (lv_at hl 1 rfl) ?_
  refine lv_iload_n hx hb dX0_beatsEarlierRounds_5 rfl (lv_at hl 2 rfl) ?_
  refine q_cs [.int (nI j), .int (nI r)] (rest := [.ref qm]) ⟨hx, hb, hml, hown, hts⟩ (mX0_at l j r) gX0_beatsEarlierRounds_X0_at rfl rfl rfl hdX0_at ⟨Nat.le_of_ble_eq_true rfl, Nat.le_of_ble_eq_true rfl⟩ rfl hl.1 rfl (Nat.le_of_ble_eq_true rfl) dX0_beatsEarlierRounds_6 ⟨Nat.zero_le _, Nat.zero_le _⟩ ?_
  refine q_ald (n := 48) (k := (6 * j + r)) hx hb hK hP 3 0 rfl rfl (by omega) (by decide) dX0_beatsEarlierRounds_9 ?_
  refine lv_istore_n (lv' := [(3, .int (fm (6 * j + r))), (0, .ref h), (1, .int (nI j)), (2, .int (nI r))]) hx hb dX0_beatsEarlierRounds_10 rfl hl (by decide) rfl (fun ls hl => ?_)
  refine lv_iload_n hx hb dX0_beatsEarlierRounds_11 rfl (lv_at hl 0 rfl) ?_
  refine lv_if_ne (tgt := 17) hx hb dX0_beatsEarlierRounds_12 (by decide) (fun c_1 => ?_) (fun c_1 => ?_)
  · skip
    refine lv_iconst (v := 0) hx hb dX0_beatsEarlierRounds_17 (by decide) ?_
    refine lv_istore (lv' := [(4, .int 0), (3, .int (fm (6 * j + r))), (0, .ref h), (1, .int (nI j)), (2, .int (nI r))]) hx hb dX0_beatsEarlierRounds_18 hl (by decide) rfl (fun ls hl => ?_)
    refine q_lp (head := 20) (r) (fun i => [(0, .ref h), (1, .int (nI j)), (2, .int (nI r)), (3, .int (fm (6 * j + r))), (4, .int (nI i))]) (fun i => anyB (fun e => fitv 3 0 (mk fm j e) (mk fm j r)) i = false) (0) (by omega) (rfl) (q_hl (lv_sub (l' := [(0, .ref h), (1, .int (nI j)), (2, .int (nI r)), (3, .int (fm (6 * j + r))), (4, .int 0)]) hl [2, 3, 4, 1, 0] rfl) (q_ck (q_ck (q_ck (q_ck (q_ce (by rfl) (rfl))))))) ?_ ?_
    · intro i hi_i hI_i ih_i ls hl
      have hl : lv_has ls 5 [(0, .ref h), (1, .int (nI j)), (2, .int (nI r)), (3, .int (fm (6 * j + r))), (4, .int (nI i))] := hl
      refine lv_iload hx hb dX0_beatsEarlierRounds_20 (lv_at hl 4 rfl) ?_
      refine lv_iload_n hx hb dX0_beatsEarlierRounds_22 rfl (lv_at hl 2 rfl) ?_
      refine lv_icmp_ge (tgt := 54) hx hb dX0_beatsEarlierRounds_23 (by decide) (fun c_2 => absurd c_2 (nI_ge hi_i (by omega))) (fun c_2 => ?_)
      refine lv_iconst (v := 3) hx hb dX0_beatsEarlierRounds_26 (by decide) ?_
      refine lv_iconst (v := 0) hx hb dX0_beatsEarlierRounds_27 (by decide) ?_
      refine lv_aload_n hx hb dX0_beatsEarlierRounds_28 rfl (lv_at hl 0 rfl) ?_
      refine va_get (D := (dC, dI)) (ci := 0) (v := .ref qm) (C := RX0) (T := TX0) (N := 8) hx hb hts hin hown hK hP 0 rfl rfl 5 (by decide) hf_26 (fun _ h9 => h9) rfl dX0_beatsEarlierRounds_29 ?_
      refine lv_iload_n hx hb dX0_beatsEarlierRounds_32 rfl (lv_at hl 1 rfl) ?_
      refine lv_iload hx hb dX0_beatsEarlierRounds_33 (lv_at hl 4 rfl) ?_
      refine q_cs [.int (nI j), .int (nI i)] (rest := [.ref qm, .int 0, .int 3]) ⟨hx, hb, hml, hown, hts⟩ (mX0_at l j i) gX0_beatsEarlierRounds_X0_at rfl rfl rfl hdX0_at ⟨Nat.le_of_ble_eq_true rfl, Nat.le_of_ble_eq_true rfl⟩ rfl hl.1 rfl (Nat.le_of_ble_eq_true rfl) dX0_beatsEarlierRounds_35 ⟨Nat.zero_le _, Nat.zero_le _⟩ ?_
      refine q_ald (n := 48) (k := (6 * j + i)) hx hb hK hP 3 0 rfl rfl (by omega) (by decide) dX0_beatsEarlierRounds_38 ?_
      refine lv_iload_n hx hb dX0_beatsEarlierRounds_39 rfl (lv_at hl 3 rfl) ?_
      refine q_cs [.int 3, .int 0, .int (fm (6 * j + i)), .int (fm (6 * j + r))] (rest := []) ⟨hx, hb, hml, hown, hts⟩ (mX0_valueFits l 3 0 (fm (6 * j + i)) (fm (6 * j + r))) gX0_beatsEarlierRounds_X0_valueFits rfl rfl rfl hdX0_valueFits ⟨Nat.le_of_ble_eq_true rfl, Nat.le_of_ble_eq_true rfl⟩ rfl hl.1 rfl (Nat.le_of_ble_eq_true rfl) dX0_beatsEarlierRounds_40 ⟨Nat.zero_le _, Nat.zero_le _⟩ ?_
      refine lv_if_eq (tgt := 48) hx hb dX0_beatsEarlierRounds_43 (by decide) (fun c_3 => ?_) (fun c_3 => ?_)
      · skip
        have c_3 : (fitv 3 0 (fm (6 * j + i)) (fm (6 * j + r))) = false := b2i_0 c_3
        refine lv_iinc (v := (nI (i + 1))) (lv' := [(4, .int (nI (i + 1))), (0, .ref h), (1, .int (nI j)), (2, .int (nI r)), (3, .int (fm (6 * j + r)))]) hx hb dX0_beatsEarlierRounds_48 hl (k := 4) rfl (by exact nI_1 _) (by decide) rfl (fun ls hl => ?_)
        refine lv_goto (tgt := 20) hx hb dX0_beatsEarlierRounds_51 (by decide) ?_
        exact ih_i (by simp [anyB, mk, hI_i, c_1, c_3] <;> simp_all [mk]) ls (lv_sub (l' := [(0, .ref h), (1, .int (nI j)), (2, .int (nI r)), (3, .int (fm (6 * j + r))), (4, .int (nI (i + 1)))]) hl [1, 2, 3, 4, 0] rfl)
      · skip
        have c_3 : (fitv 3 0 (fm (6 * j + i)) (fm (6 * j + r))) = true := b2i_n c_3
        refine lv_iconst (v := 0) hx hb dX0_beatsEarlierRounds_46 (by decide) ?_
        exact q_rb hx hb hr hlk (by simp [bts, mk, b2i, c_1, c_3, anyB_of (q := fun e => fitv 3 0 (mk fm j e) (mk fm j r)) hi_i (by simp [mk, c_1, c_3])] <;> simp_all [mk, anyB_of (q := fun e => fitv 3 0 (fm (6 * j + e)) (fm (6 * j + r))) hi_i]) dX0_beatsEarlierRounds_47
    · intro hI_i ls hl
      have hl : lv_has ls 5 [(0, .ref h), (1, .int (nI j)), (2, .int (nI r)), (3, .int (fm (6 * j + r))), (4, .int (nI r))] := hl
      refine lv_iload hx hb dX0_beatsEarlierRounds_20 (lv_at hl 4 rfl) ?_
      refine lv_iload_n hx hb dX0_beatsEarlierRounds_22 rfl (lv_at hl 2 rfl) ?_
      refine lv_icmp_ge (tgt := 54) hx hb dX0_beatsEarlierRounds_23 (by decide) (fun c_4 => ?_) (fun c_4 => absurd (nI_le (Nat.le_refl r) (by omega)) c_4)
      refine lv_iconst (v := 1) hx hb dX0_beatsEarlierRounds_54 (by decide) ?_
      exact q_rb hx hb hr hlk (by simp [bts, mk, b2i, c_1] <;> simp_all [mk]) dX0_beatsEarlierRounds_55
  · skip
    refine lv_iconst (v := 0) hx hb dX0_beatsEarlierRounds_15 (by decide) ?_
    exact q_rb hx hb hr hlk (by simp [bts, mk, b2i, c_1]) dX0_beatsEarlierRounds_16

theorem hdX0_howManyJumped : yX0_howManyJumped.cls = RX0 ∧ yX0_howManyJumped.cls ≠ "java/lang/invoke/MethodHandle" ∧ yX0_howManyJumped.cls ≠ "java/lang/invoke/VarHandle" ∧ (parseMethodDescriptor yX0_howManyJumped.desc).map (fun d => d.parameters.length) = some 0 := by decide +kernel
set_option maxHeartbeats 4000000 in
set_option maxRecDepth 100000 in
theorem mX0_howManyJumped (l : Launch) (dC : Nat → ClassId) (dI : Nat → Nat → Nat) (h qb qj qm qw qr : Nat) (cA : ClassId) (n : Nat) (rec lim : Int32) (fb fj fm fw fr : Nat → Int32) (hn : n ≤ 8) : Met l yX0_howManyJumped wsX0_howManyJumped ({ frames := 0, cells := 0, slots := 0, locals := 0 }) (va_Pc [.ref h] (fun U => va_P (dC, dI) vwCl (wX h qb qj qm qw qr cA (nI n) rec lim fb fj fm fw fr) U.heap ∧ va_K (dC, dI) vwCl [(cA, .int)] U)) (QcRead (sumI fj n)) 0 0 (fun _ => False) := by
  refine Met.ofW (cc := cX0_howManyJumped) (maxL := 3) (ret := (some .int)) (by decide) rfl ?_
  intro p e s m args below meth c s₁ B hml hv
  obtain ⟨rfl, hP, hK⟩ := hv
  have hx := B.exec
  have hb := B.bytes
  have hr := B.returns
  have hts := atoms_spec (ws := wsX0_howManyJumped) B.pre
  have hown : s.vm.findClass RX0 = some m.cls := findClass_of_methodNamed B.named
  have hlk := B.notSynchronized
  have hin : ∀ w ∈ wsX00, w ∈ wsX0_howManyJumped := fun w h => List.mem_cons_of_mem _ (List.mem_append_right _ h)
  have hf_7 := hts (.fieldLink RX0 7 "JumpBoard" "jumpers" "I") (by decide +kernel)
  have hf_23 := hts (.fieldLink RX0 23 "JumpBoard" "jumped" "[I") (by decide +kernel)
  have hl := lv_entry ([.ref h]) (n := 3) (Nat.le_of_ble_eq_true rfl)
  rw [lg_entry_eq]
  generalize (lg_sl ([.ref h]) ++ List.replicate (3 - (lg_sl ([.ref h])).length) Slot.unset).toArray = ls at hl ⊢
  have hl : lv_has ls 3 [(0, .ref h)] := hl
  refine lv_iconst (v := 0) hx hb dX0_howManyJumped_0 (by decide) ?_
  refine lv_istore_n (lv' := [(1, .int 0), (0, .ref h)]) hx hb dX0_howManyJumped_1 rfl hl (by decide) rfl (fun ls hl => ?_)
  refine lv_iconst (v := 0) hx hb dX0_howManyJumped_2 (by decide) ?_
  refine lv_istore_n (lv' := [(2, .int 0), (1, .int 0), (0, .ref h)]) hx hb dX0_howManyJumped_3 rfl hl (by decide) rfl (fun ls hl => ?_)
  refine q_lp (head := 4) (n) (fun i => [(0, .ref h), (1, .int (sumI fj i)), (2, .int (nI i))]) (fun i => True) (0) (by omega) (trivial) (q_hl (lv_sub (l' := [(0, .ref h), (1, .int 0), (2, .int 0)]) hl [2, 1, 0] rfl) (q_ck (q_ce (by rfl) (q_ce (by rfl) (rfl))))) ?_ ?_
  · intro i hi_i hI_i ih_i ls hl
    have hl : lv_has ls 3 [(0, .ref h), (1, .int (sumI fj i)), (2, .int (nI i))] := hl
    refine lv_iload_n hx hb dX0_howManyJumped_4 rfl (lv_at hl 2 rfl) ?_
    refine lv_aload_n hx hb dX0_howManyJumped_5 rfl (lv_at hl 0 rfl) ?_
    refine va_get (D := (dC, dI)) (ci := 0) (v := .int (nI n)) (C := RX0) (T := TX0) (N := 8) hx hb hts hin hown hK hP 0 rfl rfl 0 (by decide) hf_7 (fun _ h9 => h9) rfl dX0_howManyJumped_6 ?_
    refine lv_icmp_ge (tgt := 27) hx hb dX0_howManyJumped_9 (by decide) (fun c_1 => absurd c_1 (nI_ge hi_i (by omega))) (fun c_1 => ?_)
    refine lv_iload_n hx hb dX0_howManyJumped_12 rfl (lv_at hl 1 rfl) ?_
    refine lv_aload_n hx hb dX0_howManyJumped_13 rfl (lv_at hl 0 rfl) ?_
    refine va_get (D := (dC, dI)) (ci := 0) (v := .ref qj) (C := RX0) (T := TX0) (N := 8) hx hb hts hin hown hK hP 0 rfl rfl 4 (by decide) hf_23 (fun _ h9 => h9) rfl dX0_howManyJumped_14 ?_
    refine lv_iload_n hx hb dX0_howManyJumped_17 rfl (lv_at hl 2 rfl) ?_
    refine q_ald (n := 8) (k := i) hx hb hK hP 2 0 rfl rfl (by omega) (by decide) dX0_howManyJumped_18 ?_
    refine lv_iadd hx hb dX0_howManyJumped_19 ?_
    refine lv_istore_n (lv' := [(1, .int ((sumI fj i) + (fj i))), (0, .ref h), (2, .int (nI i))]) hx hb dX0_howManyJumped_20 rfl hl (by decide) rfl (fun ls hl => ?_)
    refine lv_iinc (v := (nI (i + 1))) (lv' := [(2, .int (nI (i + 1))), (1, .int ((sumI fj i) + (fj i))), (0, .ref h)]) hx hb dX0_howManyJumped_21 hl (k := 2) rfl (by exact nI_1 _) (by decide) rfl (fun ls hl => ?_)
    refine lv_goto (tgt := 4) hx hb dX0_howManyJumped_24 (by decide) ?_
    exact ih_i (by exact trivial) ls (q_hl (lv_sub (l' := [(0, .ref h), (1, .int ((sumI fj i) + (fj i))), (2, .int (nI (i + 1)))]) hl [2, 1, 0] rfl) (q_ck (q_ce (by rfl) (q_ck (rfl)))))
  · intro hI_i ls hl
    have hl : lv_has ls 3 [(0, .ref h), (1, .int (sumI fj n)), (2, .int (nI n))] := hl
    refine lv_iload_n hx hb dX0_howManyJumped_4 rfl (lv_at hl 2 rfl) ?_
    refine lv_aload_n hx hb dX0_howManyJumped_5 rfl (lv_at hl 0 rfl) ?_
    refine va_get (D := (dC, dI)) (ci := 0) (v := .int (nI n)) (C := RX0) (T := TX0) (N := 8) hx hb hts hin hown hK hP 0 rfl rfl 0 (by decide) hf_7 (fun _ h9 => h9) rfl dX0_howManyJumped_6 ?_
    refine lv_icmp_ge (tgt := 27) hx hb dX0_howManyJumped_9 (by decide) (fun c_2 => ?_) (fun c_2 => absurd (nI_le (Nat.le_refl n) (by omega)) c_2)
    refine lv_iload_n hx hb dX0_howManyJumped_27 rfl (lv_at hl 1 rfl) ?_
    exact q_ri hx hb hr hlk (by rfl) dX0_howManyJumped_28

theorem hdX0_howManyMarked : yX0_howManyMarked.cls = RX0 ∧ yX0_howManyMarked.cls ≠ "java/lang/invoke/MethodHandle" ∧ yX0_howManyMarked.cls ≠ "java/lang/invoke/VarHandle" ∧ (parseMethodDescriptor yX0_howManyMarked.desc).map (fun d => d.parameters.length) = some 0 := by decide +kernel
set_option maxHeartbeats 4000000 in
set_option maxRecDepth 100000 in
theorem mX0_howManyMarked (l : Launch) (dC : Nat → ClassId) (dI : Nat → Nat → Nat) (h qb qj qm qw qr : Nat) (cA : ClassId) (n : Nat) (rec lim : Int32) (fb fj fm fw fr : Nat → Int32) : Met l yX0_howManyMarked wsX0_howManyMarked ({ frames := 0, cells := 0, slots := 0, locals := 0 }) (va_Pc [.ref h] (fun U => va_P (dC, dI) vwCl (wX h qb qj qm qw qr cA (nI n) rec lim fb fj fm fw fr) U.heap ∧ va_K (dC, dI) vwCl [(cA, .int)] U)) (QcRead (nI (cntB (fun k => !decide (fm k = 0)) 48))) 0 0 (fun _ => False) := by
  refine Met.ofW (cc := cX0_howManyMarked) (maxL := 3) (ret := (some .int)) (by decide) rfl ?_
  intro p e s m args below meth c s₁ B hml hv
  obtain ⟨rfl, hP, hK⟩ := hv
  have hx := B.exec
  have hb := B.bytes
  have hr := B.returns
  have hts := atoms_spec (ws := wsX0_howManyMarked) B.pre
  have hown : s.vm.findClass RX0 = some m.cls := findClass_of_methodNamed B.named
  have hlk := B.notSynchronized
  have hin : ∀ w ∈ wsX00, w ∈ wsX0_howManyMarked := fun w h => List.mem_cons_of_mem _ (List.mem_append_right _ h)
  have hf_26 := hts (.fieldLink RX0 26 "JumpBoard" "marks" "[I") (by decide +kernel)
  have hl := lv_entry ([.ref h]) (n := 3) (Nat.le_of_ble_eq_true rfl)
  rw [lg_entry_eq]
  generalize (lg_sl ([.ref h]) ++ List.replicate (3 - (lg_sl ([.ref h])).length) Slot.unset).toArray = ls at hl ⊢
  have hl : lv_has ls 3 [(0, .ref h)] := hl
  refine lv_iconst (v := 0) hx hb dX0_howManyMarked_0 (by decide) ?_
  refine lv_istore_n (lv' := [(1, .int 0), (0, .ref h)]) hx hb dX0_howManyMarked_1 rfl hl (by decide) rfl (fun ls hl => ?_)
  refine lv_iconst (v := 0) hx hb dX0_howManyMarked_2 (by decide) ?_
  refine lv_istore_n (lv' := [(2, .int 0), (1, .int 0), (0, .ref h)]) hx hb dX0_howManyMarked_3 rfl hl (by decide) rfl (fun ls hl => ?_)
  refine q_lp (head := 4) (48) (fun i => [(0, .ref h), (1, .int (nI (cntB (fun k => !decide (fm k = 0)) i))), (2, .int (nI i))]) (fun i => True) (0) (by omega) (trivial) (q_hl (lv_sub (l' := [(0, .ref h), (1, .int 0), (2, .int 0)]) hl [2, 1, 0] rfl) (q_ck (q_ce (by rfl) (q_ce (by rfl) (rfl))))) ?_ ?_
  · intro i hi_i hI_i ih_i ls hl
    have hl : lv_has ls 3 [(0, .ref h), (1, .int (nI (cntB (fun k => !decide (fm k = 0)) i))), (2, .int (nI i))] := hl
    refine lv_iload_n hx hb dX0_howManyMarked_4 rfl (lv_at hl 2 rfl) ?_
    refine lv_aload_n hx hb dX0_howManyMarked_5 rfl (lv_at hl 0 rfl) ?_
    refine va_get (D := (dC, dI)) (ci := 0) (v := .ref qm) (C := RX0) (T := TX0) (N := 8) hx hb hts hin hown hK hP 0 rfl rfl 5 (by decide) hf_26 (fun _ h9 => h9) rfl dX0_howManyMarked_6 ?_
    refine va_alen (v := 48) hx hb hK hP 3 0 rfl rfl rfl dX0_howManyMarked_9 ?_
    refine lv_icmp_ge (tgt := 31) hx hb dX0_howManyMarked_10 (by decide) (fun c_1 => absurd c_1 (nI_ge (b := 48) hi_i (by decide))) (fun c_1 => ?_)
    refine lv_aload_n hx hb dX0_howManyMarked_13 rfl (lv_at hl 0 rfl) ?_
    refine va_get (D := (dC, dI)) (ci := 0) (v := .ref qm) (C := RX0) (T := TX0) (N := 8) hx hb hts hin hown hK hP 0 rfl rfl 5 (by decide) hf_26 (fun _ h9 => h9) rfl dX0_howManyMarked_14 ?_
    refine lv_iload_n hx hb dX0_howManyMarked_17 rfl (lv_at hl 2 rfl) ?_
    refine q_ald (n := 48) (k := i) hx hb hK hP 3 0 rfl rfl (by omega) (by decide) dX0_howManyMarked_18 ?_
    refine lv_if_eq (tgt := 25) hx hb dX0_howManyMarked_19 (by decide) (fun c_2 => ?_) (fun c_2 => ?_)
    · skip
      refine lv_iinc (v := (nI (i + 1))) (lv' := [(2, .int (nI (i + 1))), (0, .ref h), (1, .int (nI (cntB (fun k => !decide (fm k = 0)) i)))]) hx hb dX0_howManyMarked_25 hl (k := 2) rfl (by exact nI_1 _) (by decide) rfl (fun ls hl => ?_)
      refine lv_goto (tgt := 4) hx hb dX0_howManyMarked_28 (by decide) ?_
      exact ih_i (by exact trivial) ls (q_hl (lv_sub (l' := [(0, .ref h), (1, .int (nI (cntB (fun k => !decide (fm k = 0)) i))), (2, .int (nI (i + 1)))]) hl [1, 2, 0] rfl) (q_ck (q_ce (by simp [cntB, c_2]) (q_ck (rfl)))))
    · skip
      refine lv_iinc (v := (nI ((cntB (fun k => !decide (fm k = 0)) i) + 1))) (lv' := [(1, .int (nI ((cntB (fun k => !decide (fm k = 0)) i) + 1))), (0, .ref h), (2, .int (nI i))]) hx hb dX0_howManyMarked_22 hl (k := 1) rfl (by exact nI_1 _) (by decide) rfl (fun ls hl => ?_)
      refine lv_iinc (v := (nI (i + 1))) (lv' := [(2, .int (nI (i + 1))), (1, .int (nI ((cntB (fun k => !decide (fm k = 0)) i) + 1))), (0, .ref h)]) hx hb dX0_howManyMarked_25 hl (k := 2) rfl (by exact nI_1 _) (by decide) rfl (fun ls hl => ?_)
      refine lv_goto (tgt := 4) hx hb dX0_howManyMarked_28 (by decide) ?_
      exact ih_i (by exact trivial) ls (q_hl (lv_sub (l' := [(0, .ref h), (1, .int (nI ((cntB (fun k => !decide (fm k = 0)) i) + 1))), (2, .int (nI (i + 1)))]) hl [2, 1, 0] rfl) (q_ck (q_ce (by simp [cntB, c_2]) (q_ck (rfl)))))
  · intro hI_i ls hl
    have hl : lv_has ls 3 [(0, .ref h), (1, .int (nI (cntB (fun k => !decide (fm k = 0)) 48))), (2, .int (nI 48))] := hl
    refine lv_iload_n hx hb dX0_howManyMarked_4 rfl (lv_at hl 2 rfl) ?_
    refine lv_aload_n hx hb dX0_howManyMarked_5 rfl (lv_at hl 0 rfl) ?_
    refine va_get (D := (dC, dI)) (ci := 0) (v := .ref qm) (C := RX0) (T := TX0) (N := 8) hx hb hts hin hown hK hP 0 rfl rfl 5 (by decide) hf_26 (fun _ h9 => h9) rfl dX0_howManyMarked_6 ?_
    refine va_alen (v := 48) hx hb hK hP 3 0 rfl rfl rfl dX0_howManyMarked_9 ?_
    refine lv_icmp_ge (tgt := 31) hx hb dX0_howManyMarked_10 (by decide) (fun c_3 => ?_) (fun c_3 => absurd (by decide) c_3)
    refine lv_iload_n hx hb dX0_howManyMarked_31 rfl (lv_at hl 1 rfl) ?_
    exact q_ri hx hb hr hlk (by rfl) dX0_howManyMarked_32

theorem hdX0_howManyLegal : yX0_howManyLegal.cls = RX0 ∧ yX0_howManyLegal.cls ≠ "java/lang/invoke/MethodHandle" ∧ yX0_howManyLegal.cls ≠ "java/lang/invoke/VarHandle" ∧ (parseMethodDescriptor yX0_howManyLegal.desc).map (fun d => d.parameters.length) = some 0 := by decide +kernel
set_option maxHeartbeats 4000000 in
set_option maxRecDepth 100000 in
theorem mX0_howManyLegal (l : Launch) (dC : Nat → ClassId) (dI : Nat → Nat → Nat) (h qb qj qm qw qr : Nat) (cA : ClassId) (n : Nat) (rec lim : Int32) (fb fj fm fw fr : Nat → Int32) (hn : n ≤ 8) : Met l yX0_howManyLegal wsX0_howManyLegal ({ frames := 3, cells := 0, slots := 0, locals := 67 }) (va_Pc [.ref h] (fun U => va_P (dC, dI) vwCl (wX h qb qj qm qw qr cA (nI n) rec lim fb fj fm fw fr) U.heap ∧ va_K (dC, dI) vwCl [(cA, .int)] U)) (QcRead (nI (sumN (fun j => cntB (lgl (mk fm) (mk fw) lim j) 6) n))) 0 0 (fun _ => False) := by
  refine Met.ofW (cc := cX0_howManyLegal) (maxL := 4) (ret := (some .int)) (by decide) rfl ?_
  intro p e s m args below meth c s₁ B hml hv
  obtain ⟨rfl, hP, hK⟩ := hv
  have hx := B.exec
  have hb := B.bytes
  have hr := B.returns
  have hts := atoms_spec (ws := wsX0_howManyLegal) B.pre
  have hown : s.vm.findClass RX0 = some m.cls := findClass_of_methodNamed B.named
  have hlk := B.notSynchronized
  have hin : ∀ w ∈ wsX00, w ∈ wsX0_howManyLegal := fun w h => List.mem_cons_of_mem _ (List.mem_append_right _ h)
  have hf_7 := hts (.fieldLink RX0 7 "JumpBoard" "jumpers" "I") (by decide +kernel)
  have hl := lv_entry ([.ref h]) (n := 4) (Nat.le_of_ble_eq_true rfl)
  rw [lg_entry_eq]
  generalize (lg_sl ([.ref h]) ++ List.replicate (4 - (lg_sl ([.ref h])).length) Slot.unset).toArray = ls at hl ⊢
  have hl : lv_has ls 4 [(0, .ref h)] := hl
  refine lv_iconst (v := 0) hx hb dX0_howManyLegal_0 (by decide) ?_
  refine lv_istore_n (lv' := [(1, .int 0), (0, .ref h)]) hx hb dX0_howManyLegal_1 rfl hl (by decide) rfl (fun ls hl => ?_)
  refine lv_iconst (v := 0) hx hb dX0_howManyLegal_2 (by decide) ?_
  refine lv_istore_n (lv' := [(2, .int 0), (1, .int 0), (0, .ref h)]) hx hb dX0_howManyLegal_3 rfl hl (by decide) rfl (fun ls hl => ?_)
  refine q_lp (head := 4) (n) (fun i => [(0, .ref h), (1, .int (nI (sumN (fun j => cntB (lgl (mk fm) (mk fw) lim j) 6) i))), (2, .int (nI i))]) (fun i => True) (0) (by omega) (trivial) (q_hl (lv_sub (l' := [(0, .ref h), (1, .int 0), (2, .int 0)]) hl [2, 1, 0] rfl) (q_ck (q_ce (by rfl) (q_ce (by rfl) (rfl))))) ?_ ?_
  · intro i hi_i hI_i ih_i ls hl
    have hl : lv_has ls 4 [(0, .ref h), (1, .int (nI (sumN (fun j => cntB (lgl (mk fm) (mk fw) lim j) 6) i))), (2, .int (nI i))] := hl
    refine lv_iload_n hx hb dX0_howManyLegal_4 rfl (lv_at hl 2 rfl) ?_
    refine lv_aload_n hx hb dX0_howManyLegal_5 rfl (lv_at hl 0 rfl) ?_
    refine va_get (D := (dC, dI)) (ci := 0) (v := .int (nI n)) (C := RX0) (T := TX0) (N := 8) hx hb hts hin hown hK hP 0 rfl rfl 0 (by decide) hf_7 (fun _ h9 => h9) rfl dX0_howManyLegal_6 ?_
    refine lv_icmp_ge (tgt := 44) hx hb dX0_howManyLegal_9 (by decide) (fun c_1 => absurd c_1 (nI_ge hi_i (by omega))) (fun c_1 => ?_)
    refine lv_iconst (v := 0) hx hb dX0_howManyLegal_12 (by decide) ?_
    refine lv_istore_n (lv' := [(3, .int 0), (0, .ref h), (1, .int (nI (sumN (fun j => cntB (lgl (mk fm) (mk fw) lim j) 6) i))), (2, .int (nI i))]) hx hb dX0_howManyLegal_13 rfl hl (by decide) rfl (fun ls hl => ?_)
    refine q_lp (head := 14) (6) (fun k => [(0, .ref h), (1, .int (nI (sumN (fun j => cntB (lgl (mk fm) (mk fw) lim j) 6) i + cntB (lgl (mk fm) (mk fw) lim i) k))), (2, .int (nI i)), (3, .int (nI k))]) (fun k => True) (0) (by omega) (trivial) (q_hl (lv_sub (l' := [(0, .ref h), (1, .int (nI (sumN (fun j => cntB (lgl (mk fm) (mk fw) lim j) 6) i))), (2, .int (nI i)), (3, .int 0)]) hl [1, 2, 3, 0] rfl) (q_ck (q_ce (by rfl) (q_ck (q_ce (by rfl) (rfl)))))) ?_ ?_
    · intro k hi_k hI_k ih_k ls hl
      have hl : lv_has ls 4 [(0, .ref h), (1, .int (nI (sumN (fun j => cntB (lgl (mk fm) (mk fw) lim j) 6) i + cntB (lgl (mk fm) (mk fw) lim i) k))), (2, .int (nI i)), (3, .int (nI k))] := hl
      refine lv_iload_n hx hb dX0_howManyLegal_14 rfl (lv_at hl 3 rfl) ?_
      refine lv_bipush (v := 6) hx hb dX0_howManyLegal_15 (by decide) ?_
      refine lv_icmp_ge (tgt := 38) hx hb dX0_howManyLegal_17 (by decide) (fun c_2 => absurd c_2 (nI_ge (b := 6) hi_k (by decide))) (fun c_2 => ?_)
      refine lv_aload_n hx hb dX0_howManyLegal_20 rfl (lv_at hl 0 rfl) ?_
      refine lv_iload_n hx hb dX0_howManyLegal_21 rfl (lv_at hl 2 rfl) ?_
      refine lv_iload_n hx hb dX0_howManyLegal_22 rfl (lv_at hl 3 rfl) ?_
      refine q_cv [.int (nI i), .int (nI k)] (rest := []) ⟨hx, hb, hml, hown, hts⟩ (mX0_isLegal l dC dI h qb qj qm qw qr cA n rec lim fb fj fm fw fr i k (by omega) (by omega)) gX0_howManyLegal_X0_isLegal rfl rfl rfl hdX0_isLegal ⟨Nat.le_of_ble_eq_true rfl, Nat.le_of_ble_eq_true rfl⟩ rfl hK hP rfl rfl hl.1 rfl (Nat.le_of_ble_eq_true rfl) dX0_howManyLegal_23 ⟨Nat.zero_le _, Nat.zero_le _⟩ ?_
      refine lv_if_eq (tgt := 32) hx hb dX0_howManyLegal_26 (by decide) (fun c_3 => ?_) (fun c_3 => ?_)
      · skip
        have c_3 : (lgl (mk fm) (mk fw) lim i k) = false := b2i_0 c_3
        refine lv_iinc (v := (nI (k + 1))) (lv' := [(3, .int (nI (k + 1))), (0, .ref h), (1, .int (nI (sumN (fun j => cntB (lgl (mk fm) (mk fw) lim j) 6) i + cntB (lgl (mk fm) (mk fw) lim i) k))), (2, .int (nI i))]) hx hb dX0_howManyLegal_32 hl (k := 3) rfl (by exact nI_1 _) (by decide) rfl (fun ls hl => ?_)
        refine lv_goto (tgt := 14) hx hb dX0_howManyLegal_35 (by decide) ?_
        exact ih_k (by exact trivial) ls (q_hl (lv_sub (l' := [(0, .ref h), (1, .int (nI (sumN (fun j => cntB (lgl (mk fm) (mk fw) lim j) 6) i + cntB (lgl (mk fm) (mk fw) lim i) k))), (2, .int (nI i)), (3, .int (nI (k + 1)))]) hl [1, 2, 3, 0] rfl) (q_ck (q_ce (by simp [cntB, c_3, Nat.add_assoc]) (q_ck (q_ck (rfl))))))
      · skip
        have c_3 : (lgl (mk fm) (mk fw) lim i k) = true := b2i_n c_3
        refine lv_iinc (v := (nI ((sumN (fun j => cntB (lgl (mk fm) (mk fw) lim j) 6) i + cntB (lgl (mk fm) (mk fw) lim i) k) + 1))) (lv' := [(1, .int (nI ((sumN (fun j => cntB (lgl (mk fm) (mk fw) lim j) 6) i + cntB (lgl (mk fm) (mk fw) lim i) k) + 1))), (0, .ref h), (2, .int (nI i)), (3, .int (nI k))]) hx hb dX0_howManyLegal_29 hl (k := 1) rfl (by exact nI_1 _) (by decide) rfl (fun ls hl => ?_)
        refine lv_iinc (v := (nI (k + 1))) (lv' := [(3, .int (nI (k + 1))), (1, .int (nI ((sumN (fun j => cntB (lgl (mk fm) (mk fw) lim j) 6) i + cntB (lgl (mk fm) (mk fw) lim i) k) + 1))), (0, .ref h), (2, .int (nI i))]) hx hb dX0_howManyLegal_32 hl (k := 3) rfl (by exact nI_1 _) (by decide) rfl (fun ls hl => ?_)
        refine lv_goto (tgt := 14) hx hb dX0_howManyLegal_35 (by decide) ?_
        exact ih_k (by exact trivial) ls (q_hl (lv_sub (l' := [(0, .ref h), (1, .int (nI ((sumN (fun j => cntB (lgl (mk fm) (mk fw) lim j) 6) i + cntB (lgl (mk fm) (mk fw) lim i) k) + 1))), (2, .int (nI i)), (3, .int (nI (k + 1)))]) hl [2, 1, 3, 0] rfl) (q_ck (q_ce (by simp [cntB, c_3, Nat.add_assoc]) (q_ck (q_ck (rfl))))))
    · intro hI_k ls hl
      have hl : lv_has ls 4 [(0, .ref h), (1, .int (nI (sumN (fun j => cntB (lgl (mk fm) (mk fw) lim j) 6) i + cntB (lgl (mk fm) (mk fw) lim i) 6))), (2, .int (nI i)), (3, .int (nI 6))] := hl
      refine lv_iload_n hx hb dX0_howManyLegal_14 rfl (lv_at hl 3 rfl) ?_
      refine lv_bipush (v := 6) hx hb dX0_howManyLegal_15 (by decide) ?_
      refine lv_icmp_ge (tgt := 38) hx hb dX0_howManyLegal_17 (by decide) (fun c_4 => ?_) (fun c_4 => absurd (by decide) c_4)
      refine lv_iinc (v := (nI (i + 1))) (lv' := [(2, .int (nI (i + 1))), (0, .ref h), (1, .int (nI (sumN (fun j => cntB (lgl (mk fm) (mk fw) lim j) 6) i + cntB (lgl (mk fm) (mk fw) lim i) 6))), (3, .int (nI 6))]) hx hb dX0_howManyLegal_38 hl (k := 2) rfl (by exact nI_1 _) (by decide) rfl (fun ls hl => ?_)
      refine lv_goto (tgt := 4) hx hb dX0_howManyLegal_41 (by decide) ?_
      exact ih_i (by exact trivial) ls (q_hl (lv_sub (l' := [(0, .ref h), (1, .int (nI (sumN (fun j => cntB (lgl (mk fm) (mk fw) lim j) 6) i + cntB (lgl (mk fm) (mk fw) lim i) 6))), (2, .int (nI (i + 1)))]) hl [1, 2, 0] rfl) (q_ck (q_ce (by rfl) (q_ck (rfl)))))
  · intro hI_i ls hl
    have hl : lv_has ls 4 [(0, .ref h), (1, .int (nI (sumN (fun j => cntB (lgl (mk fm) (mk fw) lim j) 6) n))), (2, .int (nI n))] := hl
    refine lv_iload_n hx hb dX0_howManyLegal_4 rfl (lv_at hl 2 rfl) ?_
    refine lv_aload_n hx hb dX0_howManyLegal_5 rfl (lv_at hl 0 rfl) ?_
    refine va_get (D := (dC, dI)) (ci := 0) (v := .int (nI n)) (C := RX0) (T := TX0) (N := 8) hx hb hts hin hown hK hP 0 rfl rfl 0 (by decide) hf_7 (fun _ h9 => h9) rfl dX0_howManyLegal_6 ?_
    refine lv_icmp_ge (tgt := 44) hx hb dX0_howManyLegal_9 (by decide) (fun c_5 => ?_) (fun c_5 => absurd (nI_le (Nat.le_refl n) (by omega)) c_5)
    refine lv_iload_n hx hb dX0_howManyLegal_44 rfl (lv_at hl 1 rfl) ?_
    exact q_ri hx hb hr hlk (by rfl) dX0_howManyLegal_45
