theorem cde_0 (v : Int32) : cde 0 v = mrk v := rfl
theorem cde_1 (v : Int32) : cde 1 v = wnd v := by simp [cde]
theorem eB_eq (fb : Nat → Int32) (n : Nat) (b : Int32) : eB fb n b = if 8 ≤ nI n then false else (inR b 1 999 && !anyB (fun i => decide (fb i = b)) n) := by
  unfold eB inR
  split
  · rfl
  · split
    · rfl
    · split
      · rfl
      · rfl
theorem hdX1_enter : yX1_enter.cls = RX1 ∧ yX1_enter.cls ≠ "java/lang/invoke/MethodHandle" ∧ yX1_enter.cls ≠ "java/lang/invoke/VarHandle" ∧ (parseMethodDescriptor yX1_enter.desc).map (fun d => d.parameters.length) = some 1 := by decide +kernel
set_option maxHeartbeats 4000000 in
set_option maxRecDepth 100000 in
theorem mX1_enter (l : Launch) (dC : Nat → ClassId) (dI : Nat → Nat → Nat) (h qb qj qm qw qt : Nat) (cA : ClassId) (n : Nat) (rec lim : Int32) (fb fj fm fw ft : Nat → Int32) (sz : Nat) (b : Int32) (hn : n ≤ 8) : Met l yX1_enter wsX1_enter ({ frames := 1, cells := 0, slots := 0, locals := 22 }) (va_Pc [.ref h, .int b] (qPw (dC, dI) vwCl [(cA, .int)] (wY h qb qj qm qw qt cA (nI n) rec lim fb fj fm fw ft) sz)) (va_Qi (fun (r_ : Int32) (u : Nat × (Nat → Int32) × (Nat → Int32)) => (if eB fb n b = true then r_ = nI n ∧ u = (n + 1, upd fb n b, upd fj n 0) else r_ = -1000 ∧ u = (n, fb, fj))) (fun (u : Nat × (Nat → Int32) × (Nat → Int32)) => qBw (dC, dI) vwCl [(cA, .int)] (wY h qb qj qm qw qt cA (nI n) rec lim fb fj fm fw ft) (wY h qb qj qm qw qt cA (nI u.1) rec lim u.2.1 u.2.2 fm fw ft) sz) (va_A (wY h qb qj qm qw qt cA (nI n) rec lim fb fj fm fw ft) sz)) 0 0 (va_A (wY h qb qj qm qw qt cA (nI n) rec lim fb fj fm fw ft) sz) := by
  refine Met.ofW (cc := cX1_enter) (maxL := 3) (ret := (some .int)) (by decide) rfl ?_
  intro p e s m args below meth c s₁ B hml hv
  obtain ⟨rfl, hsz, hP, hK, hD0⟩ := hv
  have hx := B.exec
  have hb := B.bytes
  have hr := B.returns
  have hts := atoms_spec (ws := wsX1_enter) B.pre
  have hown : s.vm.findClass RX1 = some m.cls := findClass_of_methodNamed B.named
  have hlk := B.notSynchronized
  have hin : ∀ w ∈ wsX10, w ∈ wsX1_enter := fun w h => List.mem_cons_of_mem _ (List.mem_append_right _ h)
  have hf_7 := hts (.fieldLink RX1 7 "JumpBoardModel" "bibs" "[I") (by decide +kernel)
  have hf_13 := hts (.fieldLink RX1 13 "JumpBoardModel" "jumped" "[I") (by decide +kernel)
  have hf_32 := hts (.fieldLink RX1 32 "JumpBoardModel" "jumpers" "I") (by decide +kernel)
  subst hsz
  have hD := hD0.self (sz := s.heap.size)
  have hA : ∀ q : Nat, s.heap.size ≤ q → va_A (wY h qb qj qm qw qt cA (nI n) rec lim fb fj fm fw ft) s.heap.size q := fun q h => Or.inr h
  have hS : va_S (va_A (wY h qb qj qm qw qt cA (nI n) rec lim fb fj fm fw ft) s.heap.size) s.heap s.heap [] := va_S.rf
  have hl := lv_entry ([.ref h, .int b]) (n := 3) (Nat.le_of_ble_eq_true rfl)
  rw [lg_entry_eq]
  generalize (lg_sl ([.ref h, .int b]) ++ List.replicate (3 - (lg_sl ([.ref h, .int b])).length) Slot.unset).toArray = ls at hl ⊢
  have hl : lv_has ls 3 [(0, .ref h), (1, .int b)] := hl
  refine lv_aload_n hx hb dX1_enter_0 rfl (lv_at hl 0 rfl) ?_
  refine va_get (D := (dC, dI)) (ci := 1) (v := .int (nI n)) (C := RX1) (T := TX1) (N := 8) hx hb hts hin hown hK hP 0 rfl rfl 5 (by decide) hf_32 (fun _ h9 => h9) rfl dX1_enter_1 ?_
  refine lv_bipush (v := 8) hx hb dX1_enter_4 (by decide) ?_
  refine lv_icmp_eq (tgt := 20) hx hb dX1_enter_6 (by decide) (fun c_1 => ?_) (fun c_1 => ?_)
  · skip
    refine lv_sipush (v := (-1000)) hx hb dX1_enter_20 (by decide) ?_
    exact q_wi (w1 := (fun (u : Nat × (Nat → Int32) × (Nat → Int32)) => wY h qb qj qm qw qt cA (nI u.1) rec lim u.2.1 u.2.2 fm fw ft)) ((n, fb, fj) : Nat × (Nat → Int32) × (Nat → Int32)) hx hb hr hlk hK hP hD hS (by rw [if_neg (by simp [eB, c_1])]; exact ⟨rfl, rfl⟩) dX1_enter_23
  · skip
    refine lv_iload_n hx hb dX1_enter_9 rfl (lv_at hl 1 rfl) ?_
    refine lv_iconst (v := 1) hx hb dX1_enter_10 (by decide) ?_
    refine lv_sipush (v := 999) hx hb dX1_enter_11 (by decide) ?_
    refine q_cs [.int b, .int 1, .int 999] (rest := []) ⟨hx, hb, hml, hown, hts⟩ (mX1_isIn l b 1 999) gX1_enter_X1_isIn rfl rfl rfl hdX1_isIn ⟨Nat.le_of_ble_eq_true rfl, Nat.le_of_ble_eq_true rfl⟩ rfl hl.1 rfl (Nat.le_of_ble_eq_true rfl) dX1_enter_14 ⟨Nat.zero_le _, Nat.zero_le _⟩ ?_
    refine lv_if_ne (tgt := 24) hx hb dX1_enter_17 (by decide) (fun c_2 => ?_) (fun c_2 => ?_)
    · skip
      have c_2 : (inR b 1 999) = true := b2i_n c_2
      refine lv_iconst (v := 0) hx hb dX1_enter_24 (by decide) ?_
      refine lv_istore_n (lv' := [(2, .int 0), (0, .ref h), (1, .int b)]) hx hb dX1_enter_25 rfl hl (by decide) rfl (fun ls hl => ?_)
      refine q_lp (head := 26) (n) (fun i => [(0, .ref h), (1, .int b), (2, .int (nI i))]) (fun i => anyB (fun i => decide (fb i = b)) i = false) (0) (by omega) (rfl) (q_hl (lv_sub (l' := [(0, .ref h), (1, .int b), (2, .int 0)]) hl [1, 2, 0] rfl) (q_ck (q_ck (q_ce (by rfl) (rfl))))) ?_ ?_
      · intro i hi_i hI_i ih_i ls hl
        have hl : lv_has ls 3 [(0, .ref h), (1, .int b), (2, .int (nI i))] := hl
        refine lv_iload_n hx hb dX1_enter_26 rfl (lv_at hl 2 rfl) ?_
        refine lv_aload_n hx hb dX1_enter_27 rfl (lv_at hl 0 rfl) ?_
        refine va_get (D := (dC, dI)) (ci := 1) (v := .int (nI n)) (C := RX1) (T := TX1) (N := 8) hx hb hts hin hown hK hP 0 rfl rfl 5 (by decide) hf_32 (fun _ h9 => h9) rfl dX1_enter_28 ?_
        refine lv_icmp_ge (tgt := 54) hx hb dX1_enter_31 (by decide) (fun c_3 => absurd c_3 (nI_ge hi_i (by omega))) (fun c_3 => ?_)
        refine lv_aload_n hx hb dX1_enter_34 rfl (lv_at hl 0 rfl) ?_
        refine va_get (D := (dC, dI)) (ci := 1) (v := .ref qb) (C := RX1) (T := TX1) (N := 8) hx hb hts hin hown hK hP 0 rfl rfl 0 (by decide) hf_7 (fun _ h9 => h9) rfl dX1_enter_35 ?_
        refine lv_iload_n hx hb dX1_enter_38 rfl (lv_at hl 2 rfl) ?_
        refine q_ald (n := 8) (k := i) hx hb hK hP 1 0 rfl rfl (by omega) (by decide) dX1_enter_39 ?_
        refine lv_iload_n hx hb dX1_enter_40 rfl (lv_at hl 1 rfl) ?_
        refine lv_icmp_ne (tgt := 48) hx hb dX1_enter_41 (by decide) (fun c_4 => ?_) (fun c_4 => ?_)
        · skip
          refine lv_iinc (v := (nI (i + 1))) (lv' := [(2, .int (nI (i + 1))), (0, .ref h), (1, .int b)]) hx hb dX1_enter_48 hl (k := 2) rfl (by exact nI_1 _) (by decide) rfl (fun ls hl => ?_)
          refine lv_goto (tgt := 26) hx hb dX1_enter_51 (by decide) ?_
          exact ih_i (by simp [anyB, hI_i, c_1, c_2, c_4]) ls (lv_sub (l' := [(0, .ref h), (1, .int b), (2, .int (nI (i + 1)))]) hl [1, 2, 0] rfl)
        · skip
          refine lv_sipush (v := (-1000)) hx hb dX1_enter_44 (by decide) ?_
          exact q_wi (w1 := (fun (u : Nat × (Nat → Int32) × (Nat → Int32)) => wY h qb qj qm qw qt cA (nI u.1) rec lim u.2.1 u.2.2 fm fw ft)) ((n, fb, fj) : Nat × (Nat → Int32) × (Nat → Int32)) hx hb hr hlk hK hP hD hS (by rw [if_neg (by rw [eB_eq, anyB_of (q := fun i => decide (fb i = b)) hi_i (by simp [c_4])]; simp)]; exact ⟨rfl, rfl⟩) dX1_enter_47
      · intro hI_i ls hl
        have hl : lv_has ls 3 [(0, .ref h), (1, .int b), (2, .int (nI n))] := hl
        refine lv_iload_n hx hb dX1_enter_26 rfl (lv_at hl 2 rfl) ?_
        refine lv_aload_n hx hb dX1_enter_27 rfl (lv_at hl 0 rfl) ?_
        refine va_get (D := (dC, dI)) (ci := 1) (v := .int (nI n)) (C := RX1) (T := TX1) (N := 8) hx hb hts hin hown hK hP 0 rfl rfl 5 (by decide) hf_32 (fun _ h9 => h9) rfl dX1_enter_28 ?_
        refine lv_icmp_ge (tgt := 54) hx hb dX1_enter_31 (by decide) (fun c_5 => ?_) (fun c_5 => absurd (nI_le (Nat.le_refl n) (by omega)) c_5)
        have hn8 : n < 8 := Nat.lt_of_le_of_ne hn (fun q => c_1 (by rw [q]; rfl))
        refine lv_aload_n hx hb dX1_enter_54 rfl (lv_at hl 0 rfl) ?_
        refine va_get (D := (dC, dI)) (ci := 1) (v := .ref qb) (C := RX1) (T := TX1) (N := 8) hx hb hts hin hown hK hP 0 rfl rfl 0 (by decide) hf_7 (fun _ h9 => h9) rfl dX1_enter_55 ?_
        refine lv_aload_n hx hb dX1_enter_58 rfl (lv_at hl 0 rfl) ?_
        refine va_get (D := (dC, dI)) (ci := 1) (v := .int (nI n)) (C := RX1) (T := TX1) (N := 8) hx hb hts hin hown hK hP 0 rfl rfl 5 (by decide) hf_32 (fun _ h9 => h9) rfl dX1_enter_59 ?_
        refine lv_iload_n hx hb dX1_enter_62 rfl (lv_at hl 1 rfl) ?_
        refine q_ast (n := 8) (k := n) hx hb hK hP hD hS 1 0 rfl rfl (by omega) (by decide) dX1_enter_63 (fun H locs hP hD hS => ?_)
        have hP : va_P (dC, dI) vwCl (wY h qb qj qm qw qt cA (nI n) rec lim (upd fb n b) fj fm fw ft) H := hP
        have hD : va_D (va_A (wY h qb qj qm qw qt cA (nI n) rec lim fb fj fm fw ft) s.heap.size) (wY h qb qj qm qw qt cA (nI n) rec lim (upd fb n b) fj fm fw ft) := hD
        refine lv_aload_n hx hb dX1_enter_64 rfl (lv_at hl 0 rfl) ?_
        refine va_get (D := (dC, dI)) (ci := 1) (v := .ref qj) (C := RX1) (T := TX1) (N := 8) hx hb hts hin hown hK hP 0 rfl rfl 1 (by decide) hf_13 (fun _ h9 => h9) rfl dX1_enter_65 ?_
        refine lv_aload_n hx hb dX1_enter_68 rfl (lv_at hl 0 rfl) ?_
        refine va_get (D := (dC, dI)) (ci := 1) (v := .int (nI n)) (C := RX1) (T := TX1) (N := 8) hx hb hts hin hown hK hP 0 rfl rfl 5 (by decide) hf_32 (fun _ h9 => h9) rfl dX1_enter_69 ?_
        refine lv_iconst (v := 0) hx hb dX1_enter_72 (by decide) ?_
        refine q_ast (n := 8) (k := n) hx hb hK hP hD hS 2 0 rfl rfl (by omega) (by decide) dX1_enter_73 (fun H locs hP hD hS => ?_)
        have hP : va_P (dC, dI) vwCl (wY h qb qj qm qw qt cA (nI n) rec lim (upd fb n b) (upd fj n 0) fm fw ft) H := hP
        have hD : va_D (va_A (wY h qb qj qm qw qt cA (nI n) rec lim fb fj fm fw ft) s.heap.size) (wY h qb qj qm qw qt cA (nI n) rec lim (upd fb n b) (upd fj n 0) fm fw ft) := hD
        refine lv_aload_n hx hb dX1_enter_74 rfl (lv_at hl 0 rfl) ?_
        refine lv_dup hx hb dX1_enter_75 rfl ?_
        refine va_get (D := (dC, dI)) (ci := 1) (v := .int (nI n)) (C := RX1) (T := TX1) (N := 8) hx hb hts hin hown hK hP 0 rfl rfl 5 (by decide) hf_32 (fun _ h9 => h9) rfl dX1_enter_76 ?_
        refine lv_iconst (v := 1) hx hb dX1_enter_79 (by decide) ?_
        refine lv_iadd hx hb dX1_enter_80 ?_
        refine q_top (y := nI (n + 1)) (by exact nI_1 n) ?_
        refine va_put (D := (dC, dI)) (ci := 1) (v := .int (nI (n + 1))) (ty := .int) (C := RX1) (T := TX1) (N := 8) hx hb hts hin tyX1 tyX1_ok nmX1 hown hK hP hD hS 0 rfl rfl 5 (by decide) hf_32 (fun _ h9 => h9) rfl (by decide +kernel) rfl rfl (Nat.le_of_ble_eq_true rfl) dX1_enter_81 (fun H locs hP hD hS => ?_)
        have hP : va_P (dC, dI) vwCl (wY h qb qj qm qw qt cA (nI (n + 1)) rec lim (upd fb n b) (upd fj n 0) fm fw ft) H := hP
        have hD : va_D (va_A (wY h qb qj qm qw qt cA (nI n) rec lim fb fj fm fw ft) s.heap.size) (wY h qb qj qm qw qt cA (nI (n + 1)) rec lim (upd fb n b) (upd fj n 0) fm fw ft) := hD
        refine lv_aload_n hx hb dX1_enter_84 rfl (lv_at hl 0 rfl) ?_
        refine va_get (D := (dC, dI)) (ci := 1) (v := .int (nI (n + 1))) (C := RX1) (T := TX1) (N := 8) hx hb hts hin hown hK hP 0 rfl rfl 5 (by decide) hf_32 (fun _ h9 => h9) rfl dX1_enter_85 ?_
        refine lv_iconst (v := 1) hx hb dX1_enter_88 (by decide) ?_
        refine lv_isub hx hb dX1_enter_89 ?_
        refine q_top (y := nI n) (by exact nI_pred n) ?_
        exact q_wi (w1 := (fun (u : Nat × (Nat → Int32) × (Nat → Int32)) => wY h qb qj qm qw qt cA (nI u.1) rec lim u.2.1 u.2.2 fm fw ft)) ((n + 1, upd fb n b, upd fj n 0) : Nat × (Nat → Int32) × (Nat → Int32)) hx hb hr hlk hK hP hD hS (by rw [if_pos (by rw [eB_eq, if_neg (show ¬ (8 : Int32) ≤ nI n from nI_ge (b := 8) hn8 (by decide)), hI_i, c_2]; rfl)]; exact ⟨rfl, rfl⟩) dX1_enter_90
    · skip
      have c_2 : (inR b 1 999) = false := b2i_0 c_2
      refine lv_sipush (v := (-1000)) hx hb dX1_enter_20 (by decide) ?_
      exact q_wi (w1 := (fun (u : Nat × (Nat → Int32) × (Nat → Int32)) => wY h qb qj qm qw qt cA (nI u.1) rec lim u.2.1 u.2.2 fm fw ft)) ((n, fb, fj) : Nat × (Nat → Int32) × (Nat → Int32)) hx hb hr hlk hK hP hD hS (by rw [if_neg (by rw [eB_eq]; simp [c_2])]; exact ⟨rfl, rfl⟩) dX1_enter_23

theorem hdX1_jump : yX1_jump.cls = RX1 ∧ yX1_jump.cls ≠ "java/lang/invoke/MethodHandle" ∧ yX1_jump.cls ≠ "java/lang/invoke/VarHandle" ∧ (parseMethodDescriptor yX1_jump.desc).map (fun d => d.parameters.length) = some 3 := by decide +kernel
set_option maxHeartbeats 4000000 in
set_option maxRecDepth 100000 in
theorem mX1_jump (l : Launch) (dC : Nat → ClassId) (dI : Nat → Nat → Nat) (h qb qj qm qw qt : Nat) (cA : ClassId) (n : Nat) (rec lim : Int32) (fb fj fm fw ft : Nat → Int32) (sz : Nat) (J : Nat → Nat) (x : Int32) (g : Int32) (w : Int32) (hn : n ≤ 8) (hJ : ∀ j, j < 8 → fj j = nI (J j) ∧ J j ≤ 6) : Met l yX1_jump wsX1_jump ({ frames := 2, cells := 0, slots := 0, locals := 43 }) (va_Pc [.ref h, .int x, .int g, .int w] (qPw (dC, dI) vwCl [(cA, .int)] (wY h qb qj qm qw qt cA (nI n) rec lim fb fj fm fw ft) sz)) (va_Qi (fun (r_ : Int32) (u : (Nat → Int32) × (Nat → Int32) × (Nat → Int32)) => (if kB (nI n) J x g w = true then r_ = nI (J x.toNatClampNeg) ∧ u = (upd fj x.toNatClampNeg (nI (J x.toNatClampNeg + 1)), upd fm (6 * x.toNatClampNeg + J x.toNatClampNeg) g, upd fw (6 * x.toNatClampNeg + J x.toNatClampNeg) w) else r_ = -1000 ∧ u = (fj, fm, fw))) (fun (u : (Nat → Int32) × (Nat → Int32) × (Nat → Int32)) => qBw (dC, dI) vwCl [(cA, .int)] (wY h qb qj qm qw qt cA (nI n) rec lim fb fj fm fw ft) (wY h qb qj qm qw qt cA (nI n) rec lim fb u.1 u.2.1 u.2.2 ft) sz) (va_A (wY h qb qj qm qw qt cA (nI n) rec lim fb fj fm fw ft) sz)) 0 0 (va_A (wY h qb qj qm qw qt cA (nI n) rec lim fb fj fm fw ft) sz) := by
  refine Met.ofW (cc := cX1_jump) (maxL := 5) (ret := (some .int)) (by decide) rfl ?_
  intro p e s m args below meth c s₁ B hml hv
  obtain ⟨rfl, hsz, hP, hK, hD0⟩ := hv
  have hx := B.exec
  have hb := B.bytes
  have hr := B.returns
  have hts := atoms_spec (ws := wsX1_jump) B.pre
  have hown : s.vm.findClass RX1 = some m.cls := findClass_of_methodNamed B.named
  have hlk := B.notSynchronized
  have hin : ∀ w ∈ wsX10, w ∈ wsX1_jump := fun w h => List.mem_cons_of_mem _ (List.mem_append_right _ h)
  have hf_13 := hts (.fieldLink RX1 13 "JumpBoardModel" "jumped" "[I") (by decide +kernel)
  have hf_16 := hts (.fieldLink RX1 16 "JumpBoardModel" "marks" "[I") (by decide +kernel)
  have hf_19 := hts (.fieldLink RX1 19 "JumpBoardModel" "winds" "[I") (by decide +kernel)
  subst hsz
  have hD := hD0.self (sz := s.heap.size)
  have hA : ∀ q : Nat, s.heap.size ≤ q → va_A (wY h qb qj qm qw qt cA (nI n) rec lim fb fj fm fw ft) s.heap.size q := fun q h => Or.inr h
  have hS : va_S (va_A (wY h qb qj qm qw qt cA (nI n) rec lim fb fj fm fw ft) s.heap.size) s.heap s.heap [] := va_S.rf
  have hl := lv_entry ([.ref h, .int x, .int g, .int w]) (n := 5) (Nat.le_of_ble_eq_true rfl)
  rw [lg_entry_eq]
  generalize (lg_sl ([.ref h, .int x, .int g, .int w]) ++ List.replicate (5 - (lg_sl ([.ref h, .int x, .int g, .int w])).length) Slot.unset).toArray = ls at hl ⊢
  have hl : lv_has ls 5 [(0, .ref h), (1, .int x), (2, .int g), (3, .int w)] := hl
  refine lv_aload_n hx hb dX1_jump_0 rfl (lv_at hl 0 rfl) ?_
  refine lv_iload_n hx hb dX1_jump_1 rfl (lv_at hl 1 rfl) ?_
  refine q_cv [.int x] (rest := []) ⟨hx, hb, hml, hown, hts⟩ (mX1_isJumper l dC dI h qb qj qm qw qt cA n rec lim fb fj fm fw ft x (by omega)) gX1_jump_X1_isJumper rfl rfl rfl hdX1_isJumper ⟨Nat.le_of_ble_eq_true rfl, Nat.le_of_ble_eq_true rfl⟩ rfl hK hP rfl rfl hl.1 rfl (Nat.le_of_ble_eq_true rfl) dX1_jump_2 ⟨Nat.zero_le _, Nat.zero_le _⟩ ?_
  refine lv_if_eq (tgt := 24) hx hb dX1_jump_5 (by decide) (fun c_1 => ?_) (fun c_1 => ?_)
  · skip
    have c_1 : (jmp (nI n) x) = false := b2i_0 c_1
    refine lv_sipush (v := (-1000)) hx hb dX1_jump_24 (by decide) ?_
    exact q_wi (w1 := (fun (u : (Nat → Int32) × (Nat → Int32) × (Nat → Int32)) => wY h qb qj qm qw qt cA (nI n) rec lim fb u.1 u.2.1 u.2.2 ft)) ((fj, fm, fw) : (Nat → Int32) × (Nat → Int32) × (Nat → Int32)) hx hb hr hlk hK hP hD hS (by rw [if_neg (by simp_all [kB, cde_0, cde_1])]; exact ⟨rfl, rfl⟩) dX1_jump_27
  · skip
    have c_1 : (jmp (nI n) x) = true := b2i_n c_1
    refine lv_iconst (v := 0) hx hb dX1_jump_8 (by decide) ?_
    refine lv_iload_n hx hb dX1_jump_9 rfl (lv_at hl 2 rfl) ?_
    refine q_cs [.int 0, .int g] (rest := []) ⟨hx, hb, hml, hown, hts⟩ (mX1_isCode l 0 g) gX1_jump_X1_isCode rfl rfl rfl hdX1_isCode ⟨Nat.le_of_ble_eq_true rfl, Nat.le_of_ble_eq_true rfl⟩ rfl hl.1 rfl (Nat.le_of_ble_eq_true rfl) dX1_jump_10 ⟨Nat.zero_le _, Nat.zero_le _⟩ ?_
    refine lv_if_eq (tgt := 24) hx hb dX1_jump_13 (by decide) (fun c_2 => ?_) (fun c_2 => ?_)
    · skip
      have c_2 : (cde 0 g) = false := b2i_0 c_2
      refine lv_sipush (v := (-1000)) hx hb dX1_jump_24 (by decide) ?_
      exact q_wi (w1 := (fun (u : (Nat → Int32) × (Nat → Int32) × (Nat → Int32)) => wY h qb qj qm qw qt cA (nI n) rec lim fb u.1 u.2.1 u.2.2 ft)) ((fj, fm, fw) : (Nat → Int32) × (Nat → Int32) × (Nat → Int32)) hx hb hr hlk hK hP hD hS (by rw [if_neg (by simp_all [kB, cde_0, cde_1])]; exact ⟨rfl, rfl⟩) dX1_jump_27
    · skip
      have c_2 : (cde 0 g) = true := b2i_n c_2
      refine lv_iconst (v := 1) hx hb dX1_jump_16 (by decide) ?_
      refine lv_iload_n hx hb dX1_jump_17 rfl (lv_at hl 3 rfl) ?_
      refine q_cs [.int 1, .int w] (rest := []) ⟨hx, hb, hml, hown, hts⟩ (mX1_isCode l 1 w) gX1_jump_X1_isCode rfl rfl rfl hdX1_isCode ⟨Nat.le_of_ble_eq_true rfl, Nat.le_of_ble_eq_true rfl⟩ rfl hl.1 rfl (Nat.le_of_ble_eq_true rfl) dX1_jump_18 ⟨Nat.zero_le _, Nat.zero_le _⟩ ?_
      refine lv_if_ne (tgt := 28) hx hb dX1_jump_21 (by decide) (fun c_3 => ?_) (fun c_3 => ?_)
      · skip
        have c_3 : (cde 1 w) = true := b2i_n c_3
        obtain ⟨j, hj, rfl⟩ := jmp_of c_1 hn
        refine lv_aload_n hx hb dX1_jump_28 rfl (lv_at hl 0 rfl) ?_
        refine va_get (D := (dC, dI)) (ci := 1) (v := .ref qj) (C := RX1) (T := TX1) (N := 8) hx hb hts hin hown hK hP 0 rfl rfl 1 (by decide) hf_13 (fun _ h9 => h9) rfl dX1_jump_29 ?_
        refine lv_iload_n hx hb dX1_jump_32 rfl (lv_at hl 1 rfl) ?_
        refine q_ald (n := 8) (k := j) hx hb hK hP 2 0 rfl rfl (by omega) (by decide) dX1_jump_33 ?_
        refine q_top (y := nI (J j)) (by exact (hJ j (by omega)).1) ?_
        refine lv_istore (lv' := [(4, .int (nI (J j))), (0, .ref h), (1, .int (nI j)), (2, .int g), (3, .int w)]) hx hb dX1_jump_34 hl (by decide) rfl (fun ls hl => ?_)
        refine lv_iload hx hb dX1_jump_36 (lv_at hl 0 rfl) ?_
        refine lv_bipush (v := 6) hx hb dX1_jump_38 (by decide) ?_
        refine lv_icmp_ne (tgt := 47) hx hb dX1_jump_40 (by decide) (fun c_4 => ?_) (fun c_4 => ?_)
        · skip
          have hj6 : J j < 6 := Nat.lt_of_le_of_ne (hJ j (by omega)).2 (fun q => c_4 (by rw [q]; rfl))
          refine lv_aload_n hx hb dX1_jump_47 rfl (lv_at hl 1 rfl) ?_
          refine va_get (D := (dC, dI)) (ci := 1) (v := .ref qm) (C := RX1) (T := TX1) (N := 8) hx hb hts hin hown hK hP 0 rfl rfl 2 (by decide) hf_16 (fun _ h9 => h9) rfl dX1_jump_48 ?_
          refine lv_bipush (v := 6) hx hb dX1_jump_51 (by decide) ?_
          refine lv_iload_n hx hb dX1_jump_53 rfl (lv_at hl 2 rfl) ?_
          refine lv_imul hx hb dX1_jump_54 ?_
          refine lv_iload hx hb dX1_jump_55 (lv_at hl 0 rfl) ?_
          refine lv_iadd hx hb dX1_jump_57 ?_
          refine q_top (y := nI (6 * j + J j)) (by exact nI_6mul _ _) ?_
          refine lv_iload_n hx hb dX1_jump_58 rfl (lv_at hl 3 rfl) ?_
          refine q_ast (n := 48) (k := (6 * j + J j)) hx hb hK hP hD hS 3 0 rfl rfl (by omega) (by decide) dX1_jump_59 (fun H locs hP hD hS => ?_)
          have hP : va_P (dC, dI) vwCl (wY h qb qj qm qw qt cA (nI n) rec lim fb fj (upd fm (6 * j + J j) g) fw ft) H := hP
          have hD : va_D (va_A (wY h qb qj qm qw qt cA (nI n) rec lim fb fj fm fw ft) s.heap.size) (wY h qb qj qm qw qt cA (nI n) rec lim fb fj (upd fm (6 * j + J j) g) fw ft) := hD
          refine lv_aload_n hx hb dX1_jump_60 rfl (lv_at hl 1 rfl) ?_
          refine va_get (D := (dC, dI)) (ci := 1) (v := .ref qw) (C := RX1) (T := TX1) (N := 8) hx hb hts hin hown hK hP 0 rfl rfl 3 (by decide) hf_19 (fun _ h9 => h9) rfl dX1_jump_61 ?_
          refine lv_bipush (v := 6) hx hb dX1_jump_64 (by decide) ?_
          refine lv_iload_n hx hb dX1_jump_66 rfl (lv_at hl 2 rfl) ?_
          refine lv_imul hx hb dX1_jump_67 ?_
          refine lv_iload hx hb dX1_jump_68 (lv_at hl 0 rfl) ?_
          refine lv_iadd hx hb dX1_jump_70 ?_
          refine q_top (y := nI (6 * j + J j)) (by exact nI_6mul _ _) ?_
          refine lv_iload_n hx hb dX1_jump_71 rfl (lv_at hl 4 rfl) ?_
          refine q_ast (n := 48) (k := (6 * j + J j)) hx hb hK hP hD hS 4 0 rfl rfl (by omega) (by decide) dX1_jump_72 (fun H locs hP hD hS => ?_)
          have hP : va_P (dC, dI) vwCl (wY h qb qj qm qw qt cA (nI n) rec lim fb fj (upd fm (6 * j + J j) g) (upd fw (6 * j + J j) w) ft) H := hP
          have hD : va_D (va_A (wY h qb qj qm qw qt cA (nI n) rec lim fb fj fm fw ft) s.heap.size) (wY h qb qj qm qw qt cA (nI n) rec lim fb fj (upd fm (6 * j + J j) g) (upd fw (6 * j + J j) w) ft) := hD
          refine lv_aload_n hx hb dX1_jump_73 rfl (lv_at hl 1 rfl) ?_
          refine va_get (D := (dC, dI)) (ci := 1) (v := .ref qj) (C := RX1) (T := TX1) (N := 8) hx hb hts hin hown hK hP 0 rfl rfl 1 (by decide) hf_13 (fun _ h9 => h9) rfl dX1_jump_74 ?_
          refine lv_iload_n hx hb dX1_jump_77 rfl (lv_at hl 2 rfl) ?_
          refine lv_dup2_11 hx hb dX1_jump_78 rfl rfl ?_
          refine q_ald (n := 8) (k := j) hx hb hK hP 2 0 rfl rfl (by omega) (by decide) dX1_jump_79 ?_
          refine q_top (y := nI (J j)) (by exact (hJ j (by omega)).1) ?_
          refine lv_iconst (v := 1) hx hb dX1_jump_80 (by decide) ?_
          refine lv_iadd hx hb dX1_jump_81 ?_
          refine q_top (y := nI (J j + 1)) (by exact nI_1 _) ?_
          refine q_ast (n := 8) (k := j) hx hb hK hP hD hS 2 0 rfl rfl (by omega) (by decide) dX1_jump_82 (fun H locs hP hD hS => ?_)
          have hP : va_P (dC, dI) vwCl (wY h qb qj qm qw qt cA (nI n) rec lim fb (upd fj j (nI (J j + 1))) (upd fm (6 * j + J j) g) (upd fw (6 * j + J j) w) ft) H := hP
          have hD : va_D (va_A (wY h qb qj qm qw qt cA (nI n) rec lim fb fj fm fw ft) s.heap.size) (wY h qb qj qm qw qt cA (nI n) rec lim fb (upd fj j (nI (J j + 1))) (upd fm (6 * j + J j) g) (upd fw (6 * j + J j) w) ft) := hD
          refine lv_iload hx hb dX1_jump_83 (lv_at hl 0 rfl) ?_
          exact q_wi (w1 := (fun (u : (Nat → Int32) × (Nat → Int32) × (Nat → Int32)) => wY h qb qj qm qw qt cA (nI n) rec lim fb u.1 u.2.1 u.2.2 ft)) (((upd fj j (nI (J j + 1))), (upd fm (6 * j + J j) g), (upd fw (6 * j + J j) w)) : (Nat → Int32) × (Nat → Int32) × (Nat → Int32)) hx hb hr hlk hK hP hD hS (by rw [nI_clamp (by omega), if_pos (by rw [kB, nI_clamp (by omega), c_1, ← cde_0, ← cde_1, c_2, c_3]; simp [hj6])]; exact ⟨rfl, rfl⟩) dX1_jump_85
        · skip
          refine lv_sipush (v := (-1000)) hx hb dX1_jump_43 (by decide) ?_
          exact q_wi (w1 := (fun (u : (Nat → Int32) × (Nat → Int32) × (Nat → Int32)) => wY h qb qj qm qw qt cA (nI n) rec lim fb u.1 u.2.1 u.2.2 ft)) ((fj, fm, fw) : (Nat → Int32) × (Nat → Int32) × (Nat → Int32)) hx hb hr hlk hK hP hD hS (by rw [if_neg (by rw [kB, nI_clamp (by omega), (nI_eq (b := 6) (by have := (hJ j (by omega)).2; omega) (by decide)).mp c_4]; simp)]; exact ⟨rfl, rfl⟩) dX1_jump_46
      · skip
        have c_3 : (cde 1 w) = false := b2i_0 c_3
        refine lv_sipush (v := (-1000)) hx hb dX1_jump_24 (by decide) ?_
        exact q_wi (w1 := (fun (u : (Nat → Int32) × (Nat → Int32) × (Nat → Int32)) => wY h qb qj qm qw qt cA (nI n) rec lim fb u.1 u.2.1 u.2.2 ft)) ((fj, fm, fw) : (Nat → Int32) × (Nat → Int32) × (Nat → Int32)) hx hb hr hlk hK hP hD hS (by rw [if_neg (by simp_all [kB, cde_0, cde_1])]; exact ⟨rfl, rfl⟩) dX1_jump_27

theorem hdX1_undo : yX1_undo.cls = RX1 ∧ yX1_undo.cls ≠ "java/lang/invoke/MethodHandle" ∧ yX1_undo.cls ≠ "java/lang/invoke/VarHandle" ∧ (parseMethodDescriptor yX1_undo.desc).map (fun d => d.parameters.length) = some 1 := by decide +kernel
set_option maxHeartbeats 4000000 in
set_option maxRecDepth 100000 in
theorem mX1_undo (l : Launch) (dC : Nat → ClassId) (dI : Nat → Nat → Nat) (h qb qj qm qw qt : Nat) (cA : ClassId) (n : Nat) (rec lim : Int32) (fb fj fm fw ft : Nat → Int32) (sz : Nat) (J : Nat → Nat) (x : Int32) (hn : n ≤ 8) (hJ : ∀ j, j < 8 → fj j = nI (J j) ∧ J j ≤ 6) : Met l yX1_undo wsX1_undo ({ frames := 2, cells := 0, slots := 0, locals := 43 }) (va_Pc [.ref h, .int x] (qPw (dC, dI) vwCl [(cA, .int)] (wY h qb qj qm qw qt cA (nI n) rec lim fb fj fm fw ft) sz)) (va_Qi (fun (r_ : Int32) (u : Nat → Int32) => (if uB (nI n) J x = true then r_ = nI (J x.toNatClampNeg - 1) ∧ u = upd fj x.toNatClampNeg (nI (J x.toNatClampNeg - 1)) else r_ = -1000 ∧ u = fj)) (fun (u : Nat → Int32) => qBw (dC, dI) vwCl [(cA, .int)] (wY h qb qj qm qw qt cA (nI n) rec lim fb fj fm fw ft) (wY h qb qj qm qw qt cA (nI n) rec lim fb u fm fw ft) sz) (va_A (wY h qb qj qm qw qt cA (nI n) rec lim fb fj fm fw ft) sz)) 0 0 (va_A (wY h qb qj qm qw qt cA (nI n) rec lim fb fj fm fw ft) sz) := by
  refine Met.ofW (cc := cX1_undo) (maxL := 2) (ret := (some .int)) (by decide) rfl ?_
  intro p e s m args below meth c s₁ B hml hv
  obtain ⟨rfl, hsz, hP, hK, hD0⟩ := hv
  have hx := B.exec
  have hb := B.bytes
  have hr := B.returns
  have hts := atoms_spec (ws := wsX1_undo) B.pre
  have hown : s.vm.findClass RX1 = some m.cls := findClass_of_methodNamed B.named
  have hlk := B.notSynchronized
  have hin : ∀ w ∈ wsX10, w ∈ wsX1_undo := fun w h => List.mem_cons_of_mem _ (List.mem_append_right _ h)
  have hf_13 := hts (.fieldLink RX1 13 "JumpBoardModel" "jumped" "[I") (by decide +kernel)
  subst hsz
  have hD := hD0.self (sz := s.heap.size)
  have hA : ∀ q : Nat, s.heap.size ≤ q → va_A (wY h qb qj qm qw qt cA (nI n) rec lim fb fj fm fw ft) s.heap.size q := fun q h => Or.inr h
  have hS : va_S (va_A (wY h qb qj qm qw qt cA (nI n) rec lim fb fj fm fw ft) s.heap.size) s.heap s.heap [] := va_S.rf
  have hl := lv_entry ([.ref h, .int x]) (n := 2) (Nat.le_of_ble_eq_true rfl)
  rw [lg_entry_eq]
  generalize (lg_sl ([.ref h, .int x]) ++ List.replicate (2 - (lg_sl ([.ref h, .int x])).length) Slot.unset).toArray = ls at hl ⊢
  have hl : lv_has ls 2 [(0, .ref h), (1, .int x)] := hl
  refine lv_aload_n hx hb dX1_undo_0 rfl (lv_at hl 0 rfl) ?_
  refine lv_iload_n hx hb dX1_undo_1 rfl (lv_at hl 1 rfl) ?_
  refine q_cv [.int x] (rest := []) ⟨hx, hb, hml, hown, hts⟩ (mX1_isJumper l dC dI h qb qj qm qw qt cA n rec lim fb fj fm fw ft x (by omega)) gX1_undo_X1_isJumper rfl rfl rfl hdX1_isJumper ⟨Nat.le_of_ble_eq_true rfl, Nat.le_of_ble_eq_true rfl⟩ rfl hK hP rfl rfl hl.1 rfl (Nat.le_of_ble_eq_true rfl) dX1_undo_2 ⟨Nat.zero_le _, Nat.zero_le _⟩ ?_
  refine lv_if_eq (tgt := 17) hx hb dX1_undo_5 (by decide) (fun c_1 => ?_) (fun c_1 => ?_)
  · skip
    have c_1 : (jmp (nI n) x) = false := b2i_0 c_1
    refine lv_sipush (v := (-1000)) hx hb dX1_undo_17 (by decide) ?_
    exact q_wi (w1 := (fun (u : Nat → Int32) => wY h qb qj qm qw qt cA (nI n) rec lim fb u fm fw ft)) fj hx hb hr hlk hK hP hD hS (by rw [if_neg (by simp [uB, c_1])]; exact ⟨rfl, rfl⟩) dX1_undo_20
  · skip
    have c_1 : (jmp (nI n) x) = true := b2i_n c_1
    obtain ⟨j, hj, rfl⟩ := jmp_of c_1 hn
    refine lv_aload_n hx hb dX1_undo_8 rfl (lv_at hl 0 rfl) ?_
    refine va_get (D := (dC, dI)) (ci := 1) (v := .ref qj) (C := RX1) (T := TX1) (N := 8) hx hb hts hin hown hK hP 0 rfl rfl 1 (by decide) hf_13 (fun _ h9 => h9) rfl dX1_undo_9 ?_
    refine lv_iload_n hx hb dX1_undo_12 rfl (lv_at hl 1 rfl) ?_
    refine q_ald (n := 8) (k := j) hx hb hK hP 2 0 rfl rfl (by omega) (by decide) dX1_undo_13 ?_
    refine q_top (y := nI (J j)) (by exact (hJ j (by omega)).1) ?_
    refine lv_if_ne (tgt := 21) hx hb dX1_undo_14 (by decide) (fun c_2 => ?_) (fun c_2 => ?_)
    · skip
      have hj0 : 0 < J j := Nat.pos_of_ne_zero (fun q => c_2 (by rw [q]; rfl))
      have hj6 := (hJ j (by omega)).2
      refine lv_aload_n hx hb dX1_undo_21 rfl (lv_at hl 0 rfl) ?_
      refine va_get (D := (dC, dI)) (ci := 1) (v := .ref qj) (C := RX1) (T := TX1) (N := 8) hx hb hts hin hown hK hP 0 rfl rfl 1 (by decide) hf_13 (fun _ h9 => h9) rfl dX1_undo_22 ?_
      refine lv_iload_n hx hb dX1_undo_25 rfl (lv_at hl 1 rfl) ?_
      refine lv_dup2_11 hx hb dX1_undo_26 rfl rfl ?_
      refine q_ald (n := 8) (k := j) hx hb hK hP 2 0 rfl rfl (by omega) (by decide) dX1_undo_27 ?_
      refine q_top (y := nI (J j)) (by exact (hJ j (by omega)).1) ?_
      refine lv_iconst (v := 1) hx hb dX1_undo_28 (by decide) ?_
      refine lv_isub hx hb dX1_undo_29 ?_
      refine q_top (y := nI (J j - 1)) (by exact pk_sub (b := 1) hj0) ?_
      refine q_ast (n := 8) (k := j) hx hb hK hP hD hS 2 0 rfl rfl (by omega) (by decide) dX1_undo_30 (fun H locs hP hD hS => ?_)
      have hP : va_P (dC, dI) vwCl (wY h qb qj qm qw qt cA (nI n) rec lim fb (upd fj j (nI (J j - 1))) fm fw ft) H := hP
      have hD : va_D (va_A (wY h qb qj qm qw qt cA (nI n) rec lim fb fj fm fw ft) s.heap.size) (wY h qb qj qm qw qt cA (nI n) rec lim fb (upd fj j (nI (J j - 1))) fm fw ft) := hD
      refine lv_aload_n hx hb dX1_undo_31 rfl (lv_at hl 0 rfl) ?_
      refine va_get (D := (dC, dI)) (ci := 1) (v := .ref qj) (C := RX1) (T := TX1) (N := 8) hx hb hts hin hown hK hP 0 rfl rfl 1 (by decide) hf_13 (fun _ h9 => h9) rfl dX1_undo_32 ?_
      refine lv_iload_n hx hb dX1_undo_35 rfl (lv_at hl 1 rfl) ?_
      refine q_ald (n := 8) (k := j) hx hb hK hP 2 0 rfl rfl (by omega) (by decide) dX1_undo_36 ?_
      refine q_top (y := nI (J j - 1)) (by exact pk_us) ?_
      exact q_wi (w1 := (fun (u : Nat → Int32) => wY h qb qj qm qw qt cA (nI n) rec lim fb u fm fw ft)) (upd fj j (nI (J j - 1))) hx hb hr hlk hK hP hD hS (by rw [nI_clamp (by omega), if_pos (by rw [uB, nI_clamp (by omega)]; simp [c_1, hj0])]; exact ⟨rfl, rfl⟩) dX1_undo_37
    · skip
      refine lv_sipush (v := (-1000)) hx hb dX1_undo_17 (by decide) ?_
      exact q_wi (w1 := (fun (u : Nat → Int32) => wY h qb qj qm qw qt cA (nI n) rec lim fb u fm fw ft)) fj hx hb hr hlk hK hP hD hS (by rw [if_neg (by rw [uB, nI_clamp (by omega), (nI_eq (b := 0) (by have := (hJ j (by omega)).2; omega) (by decide)).mp c_2]; simp)]; exact ⟨rfl, rfl⟩) dX1_undo_20

theorem hdX1_record : yX1_record.cls = RX1 ∧ yX1_record.cls ≠ "java/lang/invoke/MethodHandle" ∧ yX1_record.cls ≠ "java/lang/invoke/VarHandle" ∧ (parseMethodDescriptor yX1_record.desc).map (fun d => d.parameters.length) = some 1 := by decide +kernel
set_option maxHeartbeats 4000000 in
set_option maxRecDepth 100000 in
theorem mX1_record (l : Launch) (dC : Nat → ClassId) (dI : Nat → Nat → Nat) (h qb qj qm qw qt : Nat) (cA : ClassId) (n : Nat) (rec lim : Int32) (fb fj fm fw ft : Nat → Int32) (sz : Nat) (g : Int32) : Met l yX1_record wsX1_record ({ frames := 2, cells := 0, slots := 0, locals := 43 }) (va_Pc [.ref h, .int g] (qPw (dC, dI) vwCl [(cA, .int)] (wY h qb qj qm qw qt cA (nI n) rec lim fb fj fm fw ft) sz)) (va_Qi (fun (r_ : Int32) (u : Int32) => (if mrk g = true then r_ = rec ∧ u = g else r_ = -1000 ∧ u = rec)) (fun (u : Int32) => qBw (dC, dI) vwCl [(cA, .int)] (wY h qb qj qm qw qt cA (nI n) rec lim fb fj fm fw ft) (wY h qb qj qm qw qt cA (nI n) u lim fb fj fm fw ft) sz) (va_A (wY h qb qj qm qw qt cA (nI n) rec lim fb fj fm fw ft) sz)) 0 0 (va_A (wY h qb qj qm qw qt cA (nI n) rec lim fb fj fm fw ft) sz) := by
  refine Met.ofW (cc := cX1_record) (maxL := 3) (ret := (some .int)) (by decide) rfl ?_
  intro p e s m args below meth c s₁ B hml hv
  obtain ⟨rfl, hsz, hP, hK, hD0⟩ := hv
  have hx := B.exec
  have hb := B.bytes
  have hr := B.returns
  have hts := atoms_spec (ws := wsX1_record) B.pre
  have hown : s.vm.findClass RX1 = some m.cls := findClass_of_methodNamed B.named
  have hlk := B.notSynchronized
  have hin : ∀ w ∈ wsX10, w ∈ wsX1_record := fun w h => List.mem_cons_of_mem _ (List.mem_append_right _ h)
  have hf_25 := hts (.fieldLink RX1 25 "JumpBoardModel" "recordMark" "I") (by decide +kernel)
  subst hsz
  have hD := hD0.self (sz := s.heap.size)
  have hA : ∀ q : Nat, s.heap.size ≤ q → va_A (wY h qb qj qm qw qt cA (nI n) rec lim fb fj fm fw ft) s.heap.size q := fun q h => Or.inr h
  have hS : va_S (va_A (wY h qb qj qm qw qt cA (nI n) rec lim fb fj fm fw ft) s.heap.size) s.heap s.heap [] := va_S.rf
  have hl := lv_entry ([.ref h, .int g]) (n := 3) (Nat.le_of_ble_eq_true rfl)
  rw [lg_entry_eq]
  generalize (lg_sl ([.ref h, .int g]) ++ List.replicate (3 - (lg_sl ([.ref h, .int g])).length) Slot.unset).toArray = ls at hl ⊢
  have hl : lv_has ls 3 [(0, .ref h), (1, .int g)] := hl
  refine lv_iconst (v := 0) hx hb dX1_record_0 (by decide) ?_
  refine lv_iload_n hx hb dX1_record_1 rfl (lv_at hl 1 rfl) ?_
  refine q_cs [.int 0, .int g] (rest := []) ⟨hx, hb, hml, hown, hts⟩ (mX1_isCode l 0 g) gX1_record_X1_isCode rfl rfl rfl hdX1_isCode ⟨Nat.le_of_ble_eq_true rfl, Nat.le_of_ble_eq_true rfl⟩ rfl hl.1 rfl (Nat.le_of_ble_eq_true rfl) dX1_record_2 ⟨Nat.zero_le _, Nat.zero_le _⟩ ?_
  refine lv_if_ne (tgt := 12) hx hb dX1_record_5 (by decide) (fun c_1 => ?_) (fun c_1 => ?_)
  · skip
    have c_1 : (cde 0 g) = true := b2i_n c_1
    refine lv_aload_n hx hb dX1_record_12 rfl (lv_at hl 0 rfl) ?_
    refine va_get (D := (dC, dI)) (ci := 1) (v := .int rec) (C := RX1) (T := TX1) (N := 8) hx hb hts hin hown hK hP 0 rfl rfl 6 (by decide) hf_25 (fun _ h9 => h9) rfl dX1_record_13 ?_
    refine lv_istore_n (lv' := [(2, .int rec), (0, .ref h), (1, .int g)]) hx hb dX1_record_16 rfl hl (by decide) rfl (fun ls hl => ?_)
    refine lv_aload_n hx hb dX1_record_17 rfl (lv_at hl 1 rfl) ?_
    refine lv_iload_n hx hb dX1_record_18 rfl (lv_at hl 2 rfl) ?_
    refine va_put (D := (dC, dI)) (ci := 1) (v := .int g) (ty := .int) (C := RX1) (T := TX1) (N := 8) hx hb hts hin tyX1 tyX1_ok nmX1 hown hK hP hD hS 0 rfl rfl 6 (by decide) hf_25 (fun _ h9 => h9) rfl (by decide +kernel) rfl rfl (Nat.le_of_ble_eq_true rfl) dX1_record_19 (fun H locs hP hD hS => ?_)
    have hP : va_P (dC, dI) vwCl (wY h qb qj qm qw qt cA (nI n) g lim fb fj fm fw ft) H := hP
    have hD : va_D (va_A (wY h qb qj qm qw qt cA (nI n) rec lim fb fj fm fw ft) s.heap.size) (wY h qb qj qm qw qt cA (nI n) g lim fb fj fm fw ft) := hD
    refine lv_iload_n hx hb dX1_record_22 rfl (lv_at hl 0 rfl) ?_
    exact q_wi (w1 := (fun (u : Int32) => wY h qb qj qm qw qt cA (nI n) u lim fb fj fm fw ft)) g hx hb hr hlk hK hP hD hS (by rw [cde_0] at c_1; rw [if_pos (by simp [c_1])]; exact ⟨rfl, rfl⟩) dX1_record_23
  · skip
    have c_1 : (cde 0 g) = false := b2i_0 c_1
    refine lv_sipush (v := (-1000)) hx hb dX1_record_8 (by decide) ?_
    exact q_wi (w1 := (fun (u : Int32) => wY h qb qj qm qw qt cA (nI n) u lim fb fj fm fw ft)) rec hx hb hr hlk hK hP hD hS (by rw [cde_0] at c_1; rw [if_neg (by simp [c_1])]; exact ⟨rfl, rfl⟩) dX1_record_11

theorem hdX1_limit : yX1_limit.cls = RX1 ∧ yX1_limit.cls ≠ "java/lang/invoke/MethodHandle" ∧ yX1_limit.cls ≠ "java/lang/invoke/VarHandle" ∧ (parseMethodDescriptor yX1_limit.desc).map (fun d => d.parameters.length) = some 1 := by decide +kernel
set_option maxHeartbeats 4000000 in
set_option maxRecDepth 100000 in
theorem mX1_limit (l : Launch) (dC : Nat → ClassId) (dI : Nat → Nat → Nat) (h qb qj qm qw qt : Nat) (cA : ClassId) (n : Nat) (rec lim : Int32) (fb fj fm fw ft : Nat → Int32) (sz : Nat) (g : Int32) : Met l yX1_limit wsX1_limit ({ frames := 2, cells := 0, slots := 0, locals := 43 }) (va_Pc [.ref h, .int g] (qPw (dC, dI) vwCl [(cA, .int)] (wY h qb qj qm qw qt cA (nI n) rec lim fb fj fm fw ft) sz)) (va_Qi (fun (r_ : Int32) (u : Int32) => (if wnd g = true then r_ = lim ∧ u = g else r_ = -1000 ∧ u = lim)) (fun (u : Int32) => qBw (dC, dI) vwCl [(cA, .int)] (wY h qb qj qm qw qt cA (nI n) rec lim fb fj fm fw ft) (wY h qb qj qm qw qt cA (nI n) rec u fb fj fm fw ft) sz) (va_A (wY h qb qj qm qw qt cA (nI n) rec lim fb fj fm fw ft) sz)) 0 0 (va_A (wY h qb qj qm qw qt cA (nI n) rec lim fb fj fm fw ft) sz) := by
  refine Met.ofW (cc := cX1_limit) (maxL := 3) (ret := (some .int)) (by decide) rfl ?_
  intro p e s m args below meth c s₁ B hml hv
  obtain ⟨rfl, hsz, hP, hK, hD0⟩ := hv
  have hx := B.exec
  have hb := B.bytes
  have hr := B.returns
  have hts := atoms_spec (ws := wsX1_limit) B.pre
  have hown : s.vm.findClass RX1 = some m.cls := findClass_of_methodNamed B.named
  have hlk := B.notSynchronized
  have hin : ∀ w ∈ wsX10, w ∈ wsX1_limit := fun w h => List.mem_cons_of_mem _ (List.mem_append_right _ h)
  have hf_29 := hts (.fieldLink RX1 29 "JumpBoardModel" "limitWind" "I") (by decide +kernel)
  subst hsz
  have hD := hD0.self (sz := s.heap.size)
  have hA : ∀ q : Nat, s.heap.size ≤ q → va_A (wY h qb qj qm qw qt cA (nI n) rec lim fb fj fm fw ft) s.heap.size q := fun q h => Or.inr h
  have hS : va_S (va_A (wY h qb qj qm qw qt cA (nI n) rec lim fb fj fm fw ft) s.heap.size) s.heap s.heap [] := va_S.rf
  have hl := lv_entry ([.ref h, .int g]) (n := 3) (Nat.le_of_ble_eq_true rfl)
  rw [lg_entry_eq]
  generalize (lg_sl ([.ref h, .int g]) ++ List.replicate (3 - (lg_sl ([.ref h, .int g])).length) Slot.unset).toArray = ls at hl ⊢
  have hl : lv_has ls 3 [(0, .ref h), (1, .int g)] := hl
  refine lv_iconst (v := 1) hx hb dX1_limit_0 (by decide) ?_
  refine lv_iload_n hx hb dX1_limit_1 rfl (lv_at hl 1 rfl) ?_
  refine q_cs [.int 1, .int g] (rest := []) ⟨hx, hb, hml, hown, hts⟩ (mX1_isCode l 1 g) gX1_limit_X1_isCode rfl rfl rfl hdX1_isCode ⟨Nat.le_of_ble_eq_true rfl, Nat.le_of_ble_eq_true rfl⟩ rfl hl.1 rfl (Nat.le_of_ble_eq_true rfl) dX1_limit_2 ⟨Nat.zero_le _, Nat.zero_le _⟩ ?_
  refine lv_if_ne (tgt := 12) hx hb dX1_limit_5 (by decide) (fun c_1 => ?_) (fun c_1 => ?_)
  · skip
    have c_1 : (cde 1 g) = true := b2i_n c_1
    refine lv_aload_n hx hb dX1_limit_12 rfl (lv_at hl 0 rfl) ?_
    refine va_get (D := (dC, dI)) (ci := 1) (v := .int lim) (C := RX1) (T := TX1) (N := 8) hx hb hts hin hown hK hP 0 rfl rfl 7 (by decide) hf_29 (fun _ h9 => h9) rfl dX1_limit_13 ?_
    refine lv_istore_n (lv' := [(2, .int lim), (0, .ref h), (1, .int g)]) hx hb dX1_limit_16 rfl hl (by decide) rfl (fun ls hl => ?_)
    refine lv_aload_n hx hb dX1_limit_17 rfl (lv_at hl 1 rfl) ?_
    refine lv_iload_n hx hb dX1_limit_18 rfl (lv_at hl 2 rfl) ?_
    refine va_put (D := (dC, dI)) (ci := 1) (v := .int g) (ty := .int) (C := RX1) (T := TX1) (N := 8) hx hb hts hin tyX1 tyX1_ok nmX1 hown hK hP hD hS 0 rfl rfl 7 (by decide) hf_29 (fun _ h9 => h9) rfl (by decide +kernel) rfl rfl (Nat.le_of_ble_eq_true rfl) dX1_limit_19 (fun H locs hP hD hS => ?_)
    have hP : va_P (dC, dI) vwCl (wY h qb qj qm qw qt cA (nI n) rec g fb fj fm fw ft) H := hP
    have hD : va_D (va_A (wY h qb qj qm qw qt cA (nI n) rec lim fb fj fm fw ft) s.heap.size) (wY h qb qj qm qw qt cA (nI n) rec g fb fj fm fw ft) := hD
    refine lv_iload_n hx hb dX1_limit_22 rfl (lv_at hl 0 rfl) ?_
    exact q_wi (w1 := (fun (u : Int32) => wY h qb qj qm qw qt cA (nI n) rec u fb fj fm fw ft)) g hx hb hr hlk hK hP hD hS (by rw [cde_1] at c_1; rw [if_pos (by simp [c_1])]; exact ⟨rfl, rfl⟩) dX1_limit_23
  · skip
    have c_1 : (cde 1 g) = false := b2i_0 c_1
    refine lv_sipush (v := (-1000)) hx hb dX1_limit_8 (by decide) ?_
    exact q_wi (w1 := (fun (u : Int32) => wY h qb qj qm qw qt cA (nI n) rec u fb fj fm fw ft)) lim hx hb hr hlk hK hP hD hS (by rw [cde_1] at c_1; rw [if_neg (by simp [c_1])]; exact ⟨rfl, rfl⟩) dX1_limit_11
