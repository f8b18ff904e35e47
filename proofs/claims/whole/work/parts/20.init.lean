theorem vp0 (cA : ClassId) (n : Nat) : vp_cell cA (n, .inl (fun _ => 0)) = arrV cA n (fun _ => defaultValue .int) := by
  rw [vp_cell_i]
  rfl
theorem one_cA {s : State} {a b : ClassId} (h1 : va_RA s a .int) (h2 : va_RA s b .int) : a = b := by
  have h1 : s.vm.findClass _ = some a := h1
  have h2 : s.vm.findClass _ = some b := h2
  rw [h1] at h2
  exact Option.some.inj h2
def iX0 (dC : Nat → ClassId) (dI : Nat → Nat → Nat) (h sz : Nat) (t : State) : Prop := ∃ (q1 q2 q3 q4 q5 : Nat) (cA : ClassId) (fm fw ft : Nat → Int32), (∀ k, k < 48 → fm k = 0 ∧ fw k = 100) ∧ va_P (dC, dI) vwCl (wX h q1 q2 q3 q4 q5 cA 0 0 100 (fun _ => 0) (fun _ => 0) fm fw ft) t.heap ∧ va_K (dC, dI) vwCl [(cA, .int)] t ∧ va_D (va_A [(h, .inr (0, [.int 0, .int 0, .int 0, .null, .null, .null, .null, .null]))] sz) (wX h q1 q2 q3 q4 q5 cA 0 0 100 (fun _ => 0) (fun _ => 0) fm fw ft)
set_option maxHeartbeats 400000 in
set_option maxRecDepth 100000 in
theorem mX0_init (l : Launch) (dC : Nat → ClassId) (dI : Nat → Nat → Nat) (h sz : Nat) : Met l yX0_init wsX0_init ({ frames := 1, cells := 5, slots := 160, locals := 12 }) (va_Pc [.ref h] (fun U => U.heap.size = sz ∧ va_P (dC, dI) vwCl [(h, .inr (0, [.int 0, .int 0, .int 0, .null, .null, .null, .null, .null]))] U.heap ∧ va_K (dC, dI) vwCl [] U ∧ va_D (fun _ => True) [(h, .inr (0, [.int 0, .int 0, .int 0, .null, .null, .null, .null, .null]))])) (va_Qv (fun _ : Unit => True) (fun _ => iX0 dC dI h sz) (va_A [(h, .inr (0, [.int 0, .int 0, .int 0, .null, .null, .null, .null, .null]))] sz)) 5 160 (va_A [(h, .inr (0, [.int 0, .int 0, .int 0, .null, .null, .null, .null, .null]))] sz) := by
  refine Met.ofW (cc := cX0_init) (maxL := 2) (ret := none) (by decide) rfl ?_
  intro p e s m args below meth c s₁ B hml hv
  obtain ⟨rfl, hsz, hP, hK, hD0⟩ := hv
  have hx := B.exec
  have hb := B.bytes
  have hr := B.returns
  have hts := atoms_spec (ws := wsX0_init) B.pre
  have hown : s.vm.findClass RX0 = some m.cls := findClass_of_methodNamed B.named
  have hlk := B.notSynchronized
  have hnm : meth.name = "<init>" := (name_of_methodNamed B.named B.method).1
  have hin : ∀ w ∈ wsX00, w ∈ wsX0_init := fun w h => List.mem_cons_of_mem _ (List.mem_append_right _ h)
  have hac := hts (.arrayClass .int) (by decide +kernel)
  subst hsz
  have hD := hD0.self (sz := s.heap.size)
  have hA : ∀ q : Nat, s.heap.size ≤ q → (va_A [(h, .inr (0, [.int 0, .int 0, .int 0, .null, .null, .null, .null, .null]))] s.heap.size) q := fun q h => Or.inr h
  have hS : va_S (va_A [(h, .inr (0, [.int 0, .int 0, .int 0, .null, .null, .null, .null, .null]))] s.heap.size) s.heap s.heap [] := va_S.rf
  have hf_7 := hts (.fieldLink RX0 7 "JumpBoard" "jumpers" "I") (by decide +kernel)
  have hf_13 := hts (.fieldLink RX0 13 "JumpBoard" "recordMark" "I") (by decide +kernel)
  have hf_16 := hts (.fieldLink RX0 16 "JumpBoard" "limitWind" "I") (by decide +kernel)
  have hf_19 := hts (.fieldLink RX0 19 "JumpBoard" "bibs" "[I") (by decide +kernel)
  have hf_23 := hts (.fieldLink RX0 23 "JumpBoard" "jumped" "[I") (by decide +kernel)
  have hf_26 := hts (.fieldLink RX0 26 "JumpBoard" "marks" "[I") (by decide +kernel)
  have hf_29 := hts (.fieldLink RX0 29 "JumpBoard" "winds" "[I") (by decide +kernel)
  have hf_32 := hts (.fieldLink RX0 32 "JumpBoard" "rows" "[I") (by decide +kernel)
  have hl := lv_entry ([.ref h]) (n := 2) (Nat.le_of_ble_eq_true rfl)
  rw [lg_entry_eq]
  generalize (lg_sl ([.ref h]) ++ List.replicate (2 - (lg_sl ([.ref h])).length) Slot.unset).toArray = ls at hl ⊢
  have hl : lv_has ls 2 [(0, .ref h)] := hl
  refine lv_aload_n hx hb dX0_init_0 rfl (lv_at hl 0 rfl) ?_
  refine W.objInit hx hb hown (hts (.methodLink RX0 1 objectInit) (by decide +kernel)) (hts (.instanceMethod objectInit) (by decide +kernel)) (hts _ (List.mem_cons_of_mem _ (List.mem_append_left _ (List.mem_of_getElem? (i := 2) rfl)))) rfl (by rw [hml]; exact hl.1) rfl dX0_init_1 (Nat.le_of_ble_eq_true rfl) (Nat.le_of_ble_eq_true rfl) ?_
  refine W.eq (g2 := F0 m 4 ls []) rfl ?_
  refine lv_aload_n hx hb dX0_init_4 rfl (lv_at hl 0 rfl) ?_
  refine lv_iconst (v := 0) hx hb dX0_init_5 (by decide) ?_
  refine va_put (D := (dC, dI)) (ci := 0) (v := .int 0) (ty := .int) (C := RX0) (T := TX0) (N := 8) hx hb hts hin tyX0 tyX0_ok nmX0 hown hK hP hD hS 0 rfl rfl 0 (by decide) hf_7 (fun _ h9 => h9) rfl (by decide +kernel) rfl rfl (Nat.le_of_ble_eq_true rfl) dX0_init_6 (fun H locs hP hD hS => ?_)
  have hP : va_P (dC, dI) vwCl [(h, .inr (0, [.int 0, .int 0, .int 0, .null, .null, .null, .null, .null]))] H := hP
  have hD : va_D (va_A [(h, .inr (0, [.int 0, .int 0, .int 0, .null, .null, .null, .null, .null]))] s.heap.size) [(h, .inr (0, [.int 0, .int 0, .int 0, .null, .null, .null, .null, .null]))] := hD
  refine lv_aload_n hx hb dX0_init_9 rfl (lv_at hl 0 rfl) ?_
  refine lv_iconst (v := 0) hx hb dX0_init_10 (by decide) ?_
  refine va_put (D := (dC, dI)) (ci := 0) (v := .int 0) (ty := .int) (C := RX0) (T := TX0) (N := 8) hx hb hts hin tyX0 tyX0_ok nmX0 hown hK hP hD hS 0 rfl rfl 1 (by decide) hf_13 (fun _ h9 => h9) rfl (by decide +kernel) rfl rfl (Nat.le_of_ble_eq_true rfl) dX0_init_11 (fun H locs hP hD hS => ?_)
  have hP : va_P (dC, dI) vwCl [(h, .inr (0, [.int 0, .int 0, .int 0, .null, .null, .null, .null, .null]))] H := hP
  have hD : va_D (va_A [(h, .inr (0, [.int 0, .int 0, .int 0, .null, .null, .null, .null, .null]))] s.heap.size) [(h, .inr (0, [.int 0, .int 0, .int 0, .null, .null, .null, .null, .null]))] := hD
  refine lv_aload_n hx hb dX0_init_14 rfl (lv_at hl 0 rfl) ?_
  refine lv_bipush (v := 100) hx hb dX0_init_15 (by decide) ?_
  refine va_put (D := (dC, dI)) (ci := 0) (v := .int 100) (ty := .int) (C := RX0) (T := TX0) (N := 8) hx hb hts hin tyX0 tyX0_ok nmX0 hown hK hP hD hS 0 rfl rfl 2 (by decide) hf_16 (fun _ h9 => h9) rfl (by decide +kernel) rfl rfl (Nat.le_of_ble_eq_true rfl) dX0_init_17 (fun H locs hP hD hS => ?_)
  have hP : va_P (dC, dI) vwCl [(h, .inr (0, [.int 0, .int 0, .int 100, .null, .null, .null, .null, .null]))] H := hP
  have hD : va_D (va_A [(h, .inr (0, [.int 0, .int 0, .int 0, .null, .null, .null, .null, .null]))] s.heap.size) [(h, .inr (0, [.int 0, .int 0, .int 100, .null, .null, .null, .null, .null]))] := hD
  refine lv_aload_n hx hb dX0_init_20 rfl (lv_at hl 0 rfl) ?_
  refine lv_bipush (v := 8) hx hb dX0_init_21 (by decide) ?_
  refine va_newa (atype := .int) (ty := .int) (N' := 8) (a0 := (8, .inl (fun _ => 0))) hx hb hac rfl hK hP hD hS hA (fun _ => vp0 _ _) (by decide) (by decide) (Nat.le_of_ble_eq_true rfl) (Nat.le_of_ble_eq_true rfl) (Nat.le_of_ble_eq_true rfl) dX0_init_23 (fun q1 cA H hK hP hD hS => ?_)
  have hK : va_K (dC, dI) vwCl [(cA, .int)] s := hK
  have hP : va_P (dC, dI) vwCl [(h, .inr (0, [.int 0, .int 0, .int 100, .null, .null, .null, .null, .null])), (q1, .inl (cA, 8, .inl (fun _ => 0)))] H := hP
  have hD : va_D (va_A [(h, .inr (0, [.int 0, .int 0, .int 0, .null, .null, .null, .null, .null]))] s.heap.size) [(h, .inr (0, [.int 0, .int 0, .int 100, .null, .null, .null, .null, .null])), (q1, .inl (cA, 8, .inl (fun _ => 0)))] := hD
  refine W.widen (k := 1) (n := 8) (by omega) (by omega) ?_
  refine va_putF (D := (dC, dI)) (ci := 0) (v := .ref q1) (ty := .array .int) (C := RX0) (T := TX0) (N := 8) hx hb hts hin tyX0 tyX0_ok nmX0 hown hK hP hD hS 0 rfl rfl 3 (by decide) hf_19 (fun _ h9 => h9) rfl hnm rfl (by decide +kernel) rfl rfl (Nat.le_of_ble_eq_true rfl) dX0_init_25 (fun H locs hP hD hS => ?_)
  have hP : va_P (dC, dI) vwCl [(h, .inr (0, [.int 0, .int 0, .int 100, .ref q1, .null, .null, .null, .null])), (q1, .inl (cA, 8, .inl (fun _ => 0)))] H := hP
  have hD : va_D (va_A [(h, .inr (0, [.int 0, .int 0, .int 0, .null, .null, .null, .null, .null]))] s.heap.size) [(h, .inr (0, [.int 0, .int 0, .int 100, .ref q1, .null, .null, .null, .null])), (q1, .inl (cA, 8, .inl (fun _ => 0)))] := hD
  refine lv_aload_n hx hb dX0_init_28 rfl (lv_at hl 0 rfl) ?_
  refine lv_bipush (v := 8) hx hb dX0_init_29 (by decide) ?_
  refine va_newa (atype := .int) (ty := .int) (N' := 8) (a0 := (8, .inl (fun _ => 0))) hx hb hac rfl hK hP hD hS hA (fun _ => vp0 _ _) (by decide) (by decide) (Nat.le_of_ble_eq_true rfl) (Nat.le_of_ble_eq_true rfl) (Nat.le_of_ble_eq_true rfl) dX0_init_31 (fun q2 cB H hK hP hD hS => ?_)
  obtain rfl : cA = cB := one_cA (hK.2 0 _ rfl).2 (hK.2 1 _ rfl).2
  have hK : va_K (dC, dI) vwCl [(cA, .int)] s := hK.sub [0] rfl
  have hP : va_P (dC, dI) vwCl [(h, .inr (0, [.int 0, .int 0, .int 100, .ref q1, .null, .null, .null, .null])), (q1, .inl (cA, 8, .inl (fun _ => 0))), (q2, .inl (cA, 8, .inl (fun _ => 0)))] H := hP
  have hD : va_D (va_A [(h, .inr (0, [.int 0, .int 0, .int 0, .null, .null, .null, .null, .null]))] s.heap.size) [(h, .inr (0, [.int 0, .int 0, .int 100, .ref q1, .null, .null, .null, .null])), (q1, .inl (cA, 8, .inl (fun _ => 0))), (q2, .inl (cA, 8, .inl (fun _ => 0)))] := hD
  refine W.widen (k := 2) (n := 16) (by omega) (by omega) ?_
  refine va_putF (D := (dC, dI)) (ci := 0) (v := .ref q2) (ty := .array .int) (C := RX0) (T := TX0) (N := 8) hx hb hts hin tyX0 tyX0_ok nmX0 hown hK hP hD hS 0 rfl rfl 4 (by decide) hf_23 (fun _ h9 => h9) rfl hnm rfl (by decide +kernel) rfl rfl (Nat.le_of_ble_eq_true rfl) dX0_init_33 (fun H locs hP hD hS => ?_)
  have hP : va_P (dC, dI) vwCl [(h, .inr (0, [.int 0, .int 0, .int 100, .ref q1, .ref q2, .null, .null, .null])), (q1, .inl (cA, 8, .inl (fun _ => 0))), (q2, .inl (cA, 8, .inl (fun _ => 0)))] H := hP
  have hD : va_D (va_A [(h, .inr (0, [.int 0, .int 0, .int 0, .null, .null, .null, .null, .null]))] s.heap.size) [(h, .inr (0, [.int 0, .int 0, .int 100, .ref q1, .ref q2, .null, .null, .null])), (q1, .inl (cA, 8, .inl (fun _ => 0))), (q2, .inl (cA, 8, .inl (fun _ => 0)))] := hD
  refine lv_aload_n hx hb dX0_init_36 rfl (lv_at hl 0 rfl) ?_
  refine lv_bipush (v := 48) hx hb dX0_init_37 (by decide) ?_
  refine va_newa (atype := .int) (ty := .int) (N' := 48) (a0 := (48, .inl (fun _ => 0))) hx hb hac rfl hK hP hD hS hA (fun _ => vp0 _ _) (by decide) (by decide) (Nat.le_of_ble_eq_true rfl) (Nat.le_of_ble_eq_true rfl) (Nat.le_of_ble_eq_true rfl) dX0_init_39 (fun q3 cB H hK hP hD hS => ?_)
  obtain rfl : cA = cB := one_cA (hK.2 0 _ rfl).2 (hK.2 1 _ rfl).2
  have hK : va_K (dC, dI) vwCl [(cA, .int)] s := hK.sub [0] rfl
  have hP : va_P (dC, dI) vwCl [(h, .inr (0, [.int 0, .int 0, .int 100, .ref q1, .ref q2, .null, .null, .null])), (q1, .inl (cA, 8, .inl (fun _ => 0))), (q2, .inl (cA, 8, .inl (fun _ => 0))), (q3, .inl (cA, 48, .inl (fun _ => 0)))] H := hP
  have hD : va_D (va_A [(h, .inr (0, [.int 0, .int 0, .int 0, .null, .null, .null, .null, .null]))] s.heap.size) [(h, .inr (0, [.int 0, .int 0, .int 100, .ref q1, .ref q2, .null, .null, .null])), (q1, .inl (cA, 8, .inl (fun _ => 0))), (q2, .inl (cA, 8, .inl (fun _ => 0))), (q3, .inl (cA, 48, .inl (fun _ => 0)))] := hD
  refine W.widen (k := 3) (n := 64) (by omega) (by omega) ?_
  refine va_putF (D := (dC, dI)) (ci := 0) (v := .ref q3) (ty := .array .int) (C := RX0) (T := TX0) (N := 8) hx hb hts hin tyX0 tyX0_ok nmX0 hown hK hP hD hS 0 rfl rfl 5 (by decide) hf_26 (fun _ h9 => h9) rfl hnm rfl (by decide +kernel) rfl rfl (Nat.le_of_ble_eq_true rfl) dX0_init_41 (fun H locs hP hD hS => ?_)
  have hP : va_P (dC, dI) vwCl [(h, .inr (0, [.int 0, .int 0, .int 100, .ref q1, .ref q2, .ref q3, .null, .null])), (q1, .inl (cA, 8, .inl (fun _ => 0))), (q2, .inl (cA, 8, .inl (fun _ => 0))), (q3, .inl (cA, 48, .inl (fun _ => 0)))] H := hP
  have hD : va_D (va_A [(h, .inr (0, [.int 0, .int 0, .int 0, .null, .null, .null, .null, .null]))] s.heap.size) [(h, .inr (0, [.int 0, .int 0, .int 100, .ref q1, .ref q2, .ref q3, .null, .null])), (q1, .inl (cA, 8, .inl (fun _ => 0))), (q2, .inl (cA, 8, .inl (fun _ => 0))), (q3, .inl (cA, 48, .inl (fun _ => 0)))] := hD
  refine lv_aload_n hx hb dX0_init_44 rfl (lv_at hl 0 rfl) ?_
  refine lv_bipush (v := 48) hx hb dX0_init_45 (by decide) ?_
  refine va_newa (atype := .int) (ty := .int) (N' := 48) (a0 := (48, .inl (fun _ => 0))) hx hb hac rfl hK hP hD hS hA (fun _ => vp0 _ _) (by decide) (by decide) (Nat.le_of_ble_eq_true rfl) (Nat.le_of_ble_eq_true rfl) (Nat.le_of_ble_eq_true rfl) dX0_init_47 (fun q4 cB H hK hP hD hS => ?_)
  obtain rfl : cA = cB := one_cA (hK.2 0 _ rfl).2 (hK.2 1 _ rfl).2
  have hK : va_K (dC, dI) vwCl [(cA, .int)] s := hK.sub [0] rfl
  have hP : va_P (dC, dI) vwCl [(h, .inr (0, [.int 0, .int 0, .int 100, .ref q1, .ref q2, .ref q3, .null, .null])), (q1, .inl (cA, 8, .inl (fun _ => 0))), (q2, .inl (cA, 8, .inl (fun _ => 0))), (q3, .inl (cA, 48, .inl (fun _ => 0))), (q4, .inl (cA, 48, .inl (fun _ => 0)))] H := hP
  have hD : va_D (va_A [(h, .inr (0, [.int 0, .int 0, .int 0, .null, .null, .null, .null, .null]))] s.heap.size) [(h, .inr (0, [.int 0, .int 0, .int 100, .ref q1, .ref q2, .ref q3, .null, .null])), (q1, .inl (cA, 8, .inl (fun _ => 0))), (q2, .inl (cA, 8, .inl (fun _ => 0))), (q3, .inl (cA, 48, .inl (fun _ => 0))), (q4, .inl (cA, 48, .inl (fun _ => 0)))] := hD
  refine W.widen (k := 4) (n := 112) (by omega) (by omega) ?_
  refine va_putF (D := (dC, dI)) (ci := 0) (v := .ref q4) (ty := .array .int) (C := RX0) (T := TX0) (N := 8) hx hb hts hin tyX0 tyX0_ok nmX0 hown hK hP hD hS 0 rfl rfl 6 (by decide) hf_29 (fun _ h9 => h9) rfl hnm rfl (by decide +kernel) rfl rfl (Nat.le_of_ble_eq_true rfl) dX0_init_49 (fun H locs hP hD hS => ?_)
  have hP : va_P (dC, dI) vwCl [(h, .inr (0, [.int 0, .int 0, .int 100, .ref q1, .ref q2, .ref q3, .ref q4, .null])), (q1, .inl (cA, 8, .inl (fun _ => 0))), (q2, .inl (cA, 8, .inl (fun _ => 0))), (q3, .inl (cA, 48, .inl (fun _ => 0))), (q4, .inl (cA, 48, .inl (fun _ => 0)))] H := hP
  have hD : va_D (va_A [(h, .inr (0, [.int 0, .int 0, .int 0, .null, .null, .null, .null, .null]))] s.heap.size) [(h, .inr (0, [.int 0, .int 0, .int 100, .ref q1, .ref q2, .ref q3, .ref q4, .null])), (q1, .inl (cA, 8, .inl (fun _ => 0))), (q2, .inl (cA, 8, .inl (fun _ => 0))), (q3, .inl (cA, 48, .inl (fun _ => 0))), (q4, .inl (cA, 48, .inl (fun _ => 0)))] := hD
  refine lv_aload_n hx hb dX0_init_52 rfl (lv_at hl 0 rfl) ?_
  refine lv_bipush (v := 48) hx hb dX0_init_53 (by decide) ?_
  refine va_newa (atype := .int) (ty := .int) (N' := 48) (a0 := (48, .inl (fun _ => 0))) hx hb hac rfl hK hP hD hS hA (fun _ => vp0 _ _) (by decide) (by decide) (Nat.le_of_ble_eq_true rfl) (Nat.le_of_ble_eq_true rfl) (Nat.le_of_ble_eq_true rfl) dX0_init_55 (fun q5 cB H hK hP hD hS => ?_)
  obtain rfl : cA = cB := one_cA (hK.2 0 _ rfl).2 (hK.2 1 _ rfl).2
  have hK : va_K (dC, dI) vwCl [(cA, .int)] s := hK.sub [0] rfl
  have hP : va_P (dC, dI) vwCl [(h, .inr (0, [.int 0, .int 0, .int 100, .ref q1, .ref q2, .ref q3, .ref q4, .null])), (q1, .inl (cA, 8, .inl (fun _ => 0))), (q2, .inl (cA, 8, .inl (fun _ => 0))), (q3, .inl (cA, 48, .inl (fun _ => 0))), (q4, .inl (cA, 48, .inl (fun _ => 0))), (q5, .inl (cA, 48, .inl (fun _ => 0)))] H := hP
  have hD : va_D (va_A [(h, .inr (0, [.int 0, .int 0, .int 0, .null, .null, .null, .null, .null]))] s.heap.size) [(h, .inr (0, [.int 0, .int 0, .int 100, .ref q1, .ref q2, .ref q3, .ref q4, .null])), (q1, .inl (cA, 8, .inl (fun _ => 0))), (q2, .inl (cA, 8, .inl (fun _ => 0))), (q3, .inl (cA, 48, .inl (fun _ => 0))), (q4, .inl (cA, 48, .inl (fun _ => 0))), (q5, .inl (cA, 48, .inl (fun _ => 0)))] := hD
  refine W.widen (k := 5) (n := 160) (by omega) (by omega) ?_
  refine va_putF (D := (dC, dI)) (ci := 0) (v := .ref q5) (ty := .array .int) (C := RX0) (T := TX0) (N := 8) hx hb hts hin tyX0 tyX0_ok nmX0 hown hK hP hD hS 0 rfl rfl 7 (by decide) hf_32 (fun _ h9 => h9) rfl hnm rfl (by decide +kernel) rfl rfl (Nat.le_of_ble_eq_true rfl) dX0_init_57 (fun H locs hP hD hS => ?_)
  have hP : va_P (dC, dI) vwCl [(h, .inr (0, [.int 0, .int 0, .int 100, .ref q1, .ref q2, .ref q3, .ref q4, .ref q5])), (q1, .inl (cA, 8, .inl (fun _ => 0))), (q2, .inl (cA, 8, .inl (fun _ => 0))), (q3, .inl (cA, 48, .inl (fun _ => 0))), (q4, .inl (cA, 48, .inl (fun _ => 0))), (q5, .inl (cA, 48, .inl (fun _ => 0)))] H := hP
  have hD : va_D (va_A [(h, .inr (0, [.int 0, .int 0, .int 0, .null, .null, .null, .null, .null]))] s.heap.size) [(h, .inr (0, [.int 0, .int 0, .int 100, .ref q1, .ref q2, .ref q3, .ref q4, .ref q5])), (q1, .inl (cA, 8, .inl (fun _ => 0))), (q2, .inl (cA, 8, .inl (fun _ => 0))), (q3, .inl (cA, 48, .inl (fun _ => 0))), (q4, .inl (cA, 48, .inl (fun _ => 0))), (q5, .inl (cA, 48, .inl (fun _ => 0)))] := hD
  refine lv_iconst (v := 0) hx hb dX0_init_60 (by decide) ?_
  refine lv_istore_n (lv' := [(1, .int 0), (0, .ref h)]) hx hb dX0_init_61 rfl hl (by decide) rfl (fun ls hl => ?_)
  refine q_lw (head := 62) (σ := (Nat → Int32) × (Nat → Int32)) 48 (fun i _ => [(0, .ref h), (1, .int (nI i))]) (fun i u => ∀ k, k < i → u.1 k = 0 ∧ u.2 k = 100) (fun (u : (Nat → Int32) × (Nat → Int32)) => wX h q1 q2 q3 q4 q5 cA 0 0 100 (fun _ => 0) (fun _ => 0) u.1 u.2 (fun _ => 0)) 0 (fun _ => 0, fun _ => 0) (by omega) (fun k hk => absurd hk (Nat.not_lt_zero k)) hP hD hS (lv_sub (l' := [(0, .ref h), (1, .int 0)]) hl [1, 0] rfl) ?_ ?_
  · intro i u hi hI ih H locs ls hP hD hS hl
    obtain ⟨fm, fw⟩ := u
    have hl : lv_has ls 2 [(0, .ref h), (1, .int (nI i))] := hl
    have hP : va_P (dC, dI) vwCl (wX h q1 q2 q3 q4 q5 cA 0 0 100 (fun _ => 0) (fun _ => 0) fm fw (fun _ => 0)) H := hP
    have hD : va_D (va_A [(h, .inr (0, [.int 0, .int 0, .int 0, .null, .null, .null, .null, .null]))] s.heap.size) (wX h q1 q2 q3 q4 q5 cA 0 0 100 (fun _ => 0) (fun _ => 0) fm fw (fun _ => 0)) := hD
    refine lv_iload_n hx hb dX0_init_62 rfl (lv_at hl 1 rfl) ?_
    refine lv_bipush (v := 48) hx hb dX0_init_63 (by decide) ?_
    refine lv_icmp_ge (tgt := 89) hx hb dX0_init_65 (by decide) (fun q => absurd q (nI_ge (b := 48) hi (by decide))) (fun _ => ?_)
    refine lv_aload_n hx hb dX0_init_68 rfl (lv_at hl 0 rfl) ?_
    refine va_get (D := (dC, dI)) (ci := 0) (v := .ref q3) (C := RX0) (T := TX0) (N := 8) hx hb hts hin hown hK hP 0 rfl rfl 5 (by decide) hf_26 (fun _ h9 => h9) rfl dX0_init_69 ?_
    refine lv_iload_n hx hb dX0_init_72 rfl (lv_at hl 1 rfl) ?_
    refine lv_iconst (v := 0) hx hb dX0_init_73 (by decide) ?_
    refine q_ast (n := 48) (k := i) hx hb hK hP hD hS 3 0 rfl rfl (by omega) (by decide) dX0_init_74 (fun H locs hP hD hS => ?_)
    have hP : va_P (dC, dI) vwCl (wX h q1 q2 q3 q4 q5 cA 0 0 100 (fun _ => 0) (fun _ => 0) (upd fm i 0) fw (fun _ => 0)) H := hP
    have hD : va_D (va_A [(h, .inr (0, [.int 0, .int 0, .int 0, .null, .null, .null, .null, .null]))] s.heap.size) (wX h q1 q2 q3 q4 q5 cA 0 0 100 (fun _ => 0) (fun _ => 0) (upd fm i 0) fw (fun _ => 0)) := hD
    refine lv_aload_n hx hb dX0_init_75 rfl (lv_at hl 0 rfl) ?_
    refine va_get (D := (dC, dI)) (ci := 0) (v := .ref q4) (C := RX0) (T := TX0) (N := 8) hx hb hts hin hown hK hP 0 rfl rfl 6 (by decide) hf_29 (fun _ h9 => h9) rfl dX0_init_76 ?_
    refine lv_iload_n hx hb dX0_init_79 rfl (lv_at hl 1 rfl) ?_
    refine lv_bipush (v := 100) hx hb dX0_init_80 (by decide) ?_
    refine q_ast (n := 48) (k := i) hx hb hK hP hD hS 4 0 rfl rfl (by omega) (by decide) dX0_init_82 (fun H locs hP hD hS => ?_)
    have hP : va_P (dC, dI) vwCl (wX h q1 q2 q3 q4 q5 cA 0 0 100 (fun _ => 0) (fun _ => 0) (upd fm i 0) (upd fw i 100) (fun _ => 0)) H := hP
    have hD : va_D (va_A [(h, .inr (0, [.int 0, .int 0, .int 0, .null, .null, .null, .null, .null]))] s.heap.size) (wX h q1 q2 q3 q4 q5 cA 0 0 100 (fun _ => 0) (fun _ => 0) (upd fm i 0) (upd fw i 100) (fun _ => 0)) := hD
    refine lv_iinc (v := nI (i + 1)) (lv' := [(1, .int (nI (i + 1))), (0, .ref h)]) hx hb dX0_init_83 hl (k := 1) rfl (by exact nI_1 _) (by decide) rfl (fun ls hl => ?_)
    refine lv_goto (tgt := 62) hx hb dX0_init_86 (by decide) ?_
    refine ih (upd fm i 0, upd fw i 100) H locs ls (fun k hk => ?_) hP hD hS (lv_sub (l' := [(0, .ref h), (1, .int (nI (i + 1)))]) hl [1, 0] rfl)
    rcases Nat.lt_or_ge k i with a | a
    · show upd fm i 0 k = 0 ∧ upd fw i 100 k = 100
      rw [pk_un (by omega), pk_un (by omega)]
      exact hI k a
    · obtain rfl : k = i := by omega
      exact ⟨pk_us, pk_us⟩
  · intro u H locs ls hI hP hD hS hl
    obtain ⟨fm, fw⟩ := u
    have hl : lv_has ls 2 [(0, .ref h), (1, .int (nI 48))] := hl
    have hP : va_P (dC, dI) vwCl (wX h q1 q2 q3 q4 q5 cA 0 0 100 (fun _ => 0) (fun _ => 0) fm fw (fun _ => 0)) H := hP
    have hD : va_D (va_A [(h, .inr (0, [.int 0, .int 0, .int 0, .null, .null, .null, .null, .null]))] s.heap.size) (wX h q1 q2 q3 q4 q5 cA 0 0 100 (fun _ => 0) (fun _ => 0) fm fw (fun _ => 0)) := hD
    refine lv_iload_n hx hb dX0_init_62 rfl (lv_at hl 1 rfl) ?_
    refine lv_bipush (v := 48) hx hb dX0_init_63 (by decide) ?_
    refine lv_icmp_ge (tgt := 89) hx hb dX0_init_65 (by decide) (fun _ => ?_) (fun q => absurd (by decide) q)
    exact W.vret hx hb hr (fun t ht hW => ⟨⟨(), rfl, trivial, q1, q2, q3, q4, q5, cA, fm, fw, (fun _ => 0), hI, by rw [ht]; exact hP, va_K.moved hW.alike hK, hD⟩, hS.F ht⟩) hS.2.2 dX0_init_89 hlk
def iX1 (dC : Nat → ClassId) (dI : Nat → Nat → Nat) (h sz : Nat) (t : State) : Prop := ∃ (q1 q2 q3 q4 q5 : Nat) (cA : ClassId) (fm fw ft : Nat → Int32), (ft 0 = 1 ∧ ft 1 = 3 ∧ ft 2 = 4 ∧ ft 3 = 6 ∧ ft 4 = 2 ∧ ft 5 = 5) ∧ va_P (dC, dI) vwCl (wY h q1 q2 q3 q4 q5 cA 0 0 100 (fun _ => 0) (fun _ => 0) fm fw ft) t.heap ∧ va_K (dC, dI) vwCl [(cA, .int)] t ∧ va_D (va_A [(h, .inr (1, [.null, .null, .null, .null, .null, .int 0, .int 0, .int 0]))] sz) (wY h q1 q2 q3 q4 q5 cA 0 0 100 (fun _ => 0) (fun _ => 0) fm fw ft)
set_option maxHeartbeats 400000 in
set_option maxRecDepth 100000 in
theorem mX1_init (l : Launch) (dC : Nat → ClassId) (dI : Nat → Nat → Nat) (h sz : Nat) : Met l yX1_init wsX1_init ({ frames := 1, cells := 5, slots := 118, locals := 12 }) (va_Pc [.ref h] (fun U => U.heap.size = sz ∧ va_P (dC, dI) vwCl [(h, .inr (1, [.null, .null, .null, .null, .null, .int 0, .int 0, .int 0]))] U.heap ∧ va_K (dC, dI) vwCl [] U ∧ va_D (fun _ => True) [(h, .inr (1, [.null, .null, .null, .null, .null, .int 0, .int 0, .int 0]))])) (va_Qv (fun _ : Unit => True) (fun _ => iX1 dC dI h sz) (va_A [(h, .inr (1, [.null, .null, .null, .null, .null, .int 0, .int 0, .int 0]))] sz)) 5 118 (va_A [(h, .inr (1, [.null, .null, .null, .null, .null, .int 0, .int 0, .int 0]))] sz) := by
  refine Met.ofW (cc := cX1_init) (maxL := 1) (ret := none) (by decide) rfl ?_
  intro p e s m args below meth c s₁ B hml hv
  obtain ⟨rfl, hsz, hP, hK, hD0⟩ := hv
  have hx := B.exec
  have hb := B.bytes
  have hr := B.returns
  have hts := atoms_spec (ws := wsX1_init) B.pre
  have hown : s.vm.findClass RX1 = some m.cls := findClass_of_methodNamed B.named
  have hlk := B.notSynchronized
  have hnm : meth.name = "<init>" := (name_of_methodNamed B.named B.method).1
  have hin : ∀ w ∈ wsX10, w ∈ wsX1_init := fun w h => List.mem_cons_of_mem _ (List.mem_append_right _ h)
  have hac := hts (.arrayClass .int) (by decide +kernel)
  subst hsz
  have hD := hD0.self (sz := s.heap.size)
  have hA : ∀ q : Nat, s.heap.size ≤ q → (va_A [(h, .inr (1, [.null, .null, .null, .null, .null, .int 0, .int 0, .int 0]))] s.heap.size) q := fun q h => Or.inr h
  have hS : va_S (va_A [(h, .inr (1, [.null, .null, .null, .null, .null, .int 0, .int 0, .int 0]))] s.heap.size) s.heap s.heap [] := va_S.rf
  have hf_7 := hts (.fieldLink RX1 7 "JumpBoardModel" "bibs" "[I") (by decide +kernel)
  have hf_13 := hts (.fieldLink RX1 13 "JumpBoardModel" "jumped" "[I") (by decide +kernel)
  have hf_16 := hts (.fieldLink RX1 16 "JumpBoardModel" "marks" "[I") (by decide +kernel)
  have hf_19 := hts (.fieldLink RX1 19 "JumpBoardModel" "winds" "[I") (by decide +kernel)
  have hf_22 := hts (.fieldLink RX1 22 "JumpBoardModel" "takes" "[I") (by decide +kernel)
  have hf_25 := hts (.fieldLink RX1 25 "JumpBoardModel" "recordMark" "I") (by decide +kernel)
  have hf_29 := hts (.fieldLink RX1 29 "JumpBoardModel" "limitWind" "I") (by decide +kernel)
  have hl := lv_entry ([.ref h]) (n := 1) (Nat.le_of_ble_eq_true rfl)
  rw [lg_entry_eq]
  generalize (lg_sl ([.ref h]) ++ List.replicate (1 - (lg_sl ([.ref h])).length) Slot.unset).toArray = ls at hl ⊢
  have hl : lv_has ls 1 [(0, .ref h)] := hl
  refine lv_aload_n hx hb dX1_init_0 rfl (lv_at hl 0 rfl) ?_
  refine W.objInit hx hb hown (hts (.methodLink RX1 1 objectInit) (by decide +kernel)) (hts (.instanceMethod objectInit) (by decide +kernel)) (hts _ (List.mem_cons_of_mem _ (List.mem_append_left _ (List.mem_of_getElem? (i := 2) rfl)))) rfl (by rw [hml]; exact hl.1) rfl dX1_init_1 (Nat.le_of_ble_eq_true rfl) (Nat.le_of_ble_eq_true rfl) ?_
  refine W.eq (g2 := F0 m 4 ls []) rfl ?_
  refine lv_aload_n hx hb dX1_init_4 rfl (lv_at hl 0 rfl) ?_
  refine lv_bipush (v := 8) hx hb dX1_init_5 (by decide) ?_
  refine va_newa (atype := .int) (ty := .int) (N' := 8) (a0 := (8, .inl (fun _ => 0))) hx hb hac rfl hK hP hD hS hA (fun _ => vp0 _ _) (by decide) (by decide) (Nat.le_of_ble_eq_true rfl) (Nat.le_of_ble_eq_true rfl) (Nat.le_of_ble_eq_true rfl) dX1_init_7 (fun q1 cA H hK hP hD hS => ?_)
  have hK : va_K (dC, dI) vwCl [(cA, .int)] s := hK
  have hP : va_P (dC, dI) vwCl [(h, .inr (1, [.null, .null, .null, .null, .null, .int 0, .int 0, .int 0])), (q1, .inl (cA, 8, .inl (fun _ => 0)))] H := hP
  have hD : va_D (va_A [(h, .inr (1, [.null, .null, .null, .null, .null, .int 0, .int 0, .int 0]))] s.heap.size) [(h, .inr (1, [.null, .null, .null, .null, .null, .int 0, .int 0, .int 0])), (q1, .inl (cA, 8, .inl (fun _ => 0)))] := hD
  refine W.widen (k := 1) (n := 8) (by omega) (by omega) ?_
  refine va_putF (D := (dC, dI)) (ci := 1) (v := .ref q1) (ty := .array .int) (C := RX1) (T := TX1) (N := 8) hx hb hts hin tyX1 tyX1_ok nmX1 hown hK hP hD hS 0 rfl rfl 0 (by decide) hf_7 (fun _ h9 => h9) rfl hnm rfl (by decide +kernel) rfl rfl (Nat.le_of_ble_eq_true rfl) dX1_init_9 (fun H locs hP hD hS => ?_)
  have hP : va_P (dC, dI) vwCl [(h, .inr (1, [.ref q1, .null, .null, .null, .null, .int 0, .int 0, .int 0])), (q1, .inl (cA, 8, .inl (fun _ => 0)))] H := hP
  have hD : va_D (va_A [(h, .inr (1, [.null, .null, .null, .null, .null, .int 0, .int 0, .int 0]))] s.heap.size) [(h, .inr (1, [.ref q1, .null, .null, .null, .null, .int 0, .int 0, .int 0])), (q1, .inl (cA, 8, .inl (fun _ => 0)))] := hD
  refine lv_aload_n hx hb dX1_init_12 rfl (lv_at hl 0 rfl) ?_
  refine lv_bipush (v := 8) hx hb dX1_init_13 (by decide) ?_
  refine va_newa (atype := .int) (ty := .int) (N' := 8) (a0 := (8, .inl (fun _ => 0))) hx hb hac rfl hK hP hD hS hA (fun _ => vp0 _ _) (by decide) (by decide) (Nat.le_of_ble_eq_true rfl) (Nat.le_of_ble_eq_true rfl) (Nat.le_of_ble_eq_true rfl) dX1_init_15 (fun q2 cB H hK hP hD hS => ?_)
  obtain rfl : cA = cB := one_cA (hK.2 0 _ rfl).2 (hK.2 1 _ rfl).2
  have hK : va_K (dC, dI) vwCl [(cA, .int)] s := hK.sub [0] rfl
  have hP : va_P (dC, dI) vwCl [(h, .inr (1, [.ref q1, .null, .null, .null, .null, .int 0, .int 0, .int 0])), (q1, .inl (cA, 8, .inl (fun _ => 0))), (q2, .inl (cA, 8, .inl (fun _ => 0)))] H := hP
  have hD : va_D (va_A [(h, .inr (1, [.null, .null, .null, .null, .null, .int 0, .int 0, .int 0]))] s.heap.size) [(h, .inr (1, [.ref q1, .null, .null, .null, .null, .int 0, .int 0, .int 0])), (q1, .inl (cA, 8, .inl (fun _ => 0))), (q2, .inl (cA, 8, .inl (fun _ => 0)))] := hD
  refine W.widen (k := 2) (n := 16) (by omega) (by omega) ?_
  refine va_putF (D := (dC, dI)) (ci := 1) (v := .ref q2) (ty := .array .int) (C := RX1) (T := TX1) (N := 8) hx hb hts hin tyX1 tyX1_ok nmX1 hown hK hP hD hS 0 rfl rfl 1 (by decide) hf_13 (fun _ h9 => h9) rfl hnm rfl (by decide +kernel) rfl rfl (Nat.le_of_ble_eq_true rfl) dX1_init_17 (fun H locs hP hD hS => ?_)
  have hP : va_P (dC, dI) vwCl [(h, .inr (1, [.ref q1, .ref q2, .null, .null, .null, .int 0, .int 0, .int 0])), (q1, .inl (cA, 8, .inl (fun _ => 0))), (q2, .inl (cA, 8, .inl (fun _ => 0)))] H := hP
  have hD : va_D (va_A [(h, .inr (1, [.null, .null, .null, .null, .null, .int 0, .int 0, .int 0]))] s.heap.size) [(h, .inr (1, [.ref q1, .ref q2, .null, .null, .null, .int 0, .int 0, .int 0])), (q1, .inl (cA, 8, .inl (fun _ => 0))), (q2, .inl (cA, 8, .inl (fun _ => 0)))] := hD
  refine lv_aload_n hx hb dX1_init_20 rfl (lv_at hl 0 rfl) ?_
  refine lv_bipush (v := 48) hx hb dX1_init_21 (by decide) ?_
  refine va_newa (atype := .int) (ty := .int) (N' := 48) (a0 := (48, .inl (fun _ => 0))) hx hb hac rfl hK hP hD hS hA (fun _ => vp0 _ _) (by decide) (by decide) (Nat.le_of_ble_eq_true rfl) (Nat.le_of_ble_eq_true rfl) (Nat.le_of_ble_eq_true rfl) dX1_init_23 (fun q3 cB H hK hP hD hS => ?_)
  obtain rfl : cA = cB := one_cA (hK.2 0 _ rfl).2 (hK.2 1 _ rfl).2
  have hK : va_K (dC, dI) vwCl [(cA, .int)] s := hK.sub [0] rfl
  have hP : va_P (dC, dI) vwCl [(h, .inr (1, [.ref q1, .ref q2, .null, .null, .null, .int 0, .int 0, .int 0])), (q1, .inl (cA, 8, .inl (fun _ => 0))), (q2, .inl (cA, 8, .inl (fun _ => 0))), (q3, .inl (cA, 48, .inl (fun _ => 0)))] H := hP
  have hD : va_D (va_A [(h, .inr (1, [.null, .null, .null, .null, .null, .int 0, .int 0, .int 0]))] s.heap.size) [(h, .inr (1, [.ref q1, .ref q2, .null, .null, .null, .int 0, .int 0, .int 0])), (q1, .inl (cA, 8, .inl (fun _ => 0))), (q2, .inl (cA, 8, .inl (fun _ => 0))), (q3, .inl (cA, 48, .inl (fun _ => 0)))] := hD
  refine W.widen (k := 3) (n := 64) (by omega) (by omega) ?_
  refine va_putF (D := (dC, dI)) (ci := 1) (v := .ref q3) (ty := .array .int) (C := RX1) (T := TX1) (N := 8) hx hb hts hin tyX1 tyX1_ok nmX1 hown hK hP hD hS 0 rfl rfl 2 (by decide) hf_16 (fun _ h9 => h9) rfl hnm rfl (by decide +kernel) rfl rfl (Nat.le_of_ble_eq_true rfl) dX1_init_25 (fun H locs hP hD hS => ?_)
  have hP : va_P (dC, dI) vwCl [(h, .inr (1, [.ref q1, .ref q2, .ref q3, .null, .null, .int 0, .int 0, .int 0])), (q1, .inl (cA, 8, .inl (fun _ => 0))), (q2, .inl (cA, 8, .inl (fun _ => 0))), (q3, .inl (cA, 48, .inl (fun _ => 0)))] H := hP
  have hD : va_D (va_A [(h, .inr (1, [.null, .null, .null, .null, .null, .int 0, .int 0, .int 0]))] s.heap.size) [(h, .inr (1, [.ref q1, .ref q2, .ref q3, .null, .null, .int 0, .int 0, .int 0])), (q1, .inl (cA, 8, .inl (fun _ => 0))), (q2, .inl (cA, 8, .inl (fun _ => 0))), (q3, .inl (cA, 48, .inl (fun _ => 0)))] := hD
  refine lv_aload_n hx hb dX1_init_28 rfl (lv_at hl 0 rfl) ?_
  refine lv_bipush (v := 48) hx hb dX1_init_29 (by decide) ?_
  refine va_newa (atype := .int) (ty := .int) (N' := 48) (a0 := (48, .inl (fun _ => 0))) hx hb hac rfl hK hP hD hS hA (fun _ => vp0 _ _) (by decide) (by decide) (Nat.le_of_ble_eq_true rfl) (Nat.le_of_ble_eq_true rfl) (Nat.le_of_ble_eq_true rfl) dX1_init_31 (fun q4 cB H hK hP hD hS => ?_)
  obtain rfl : cA = cB := one_cA (hK.2 0 _ rfl).2 (hK.2 1 _ rfl).2
  have hK : va_K (dC, dI) vwCl [(cA, .int)] s := hK.sub [0] rfl
  have hP : va_P (dC, dI) vwCl [(h, .inr (1, [.ref q1, .ref q2, .ref q3, .null, .null, .int 0, .int 0, .int 0])), (q1, .inl (cA, 8, .inl (fun _ => 0))), (q2, .inl (cA, 8, .inl (fun _ => 0))), (q3, .inl (cA, 48, .inl (fun _ => 0))), (q4, .inl (cA, 48, .inl (fun _ => 0)))] H := hP
  have hD : va_D (va_A [(h, .inr (1, [.null, .null, .null, .null, .null, .int 0, .int 0, .int 0]))] s.heap.size) [(h, .inr (1, [.ref q1, .ref q2, .ref q3, .null, .null, .int 0, .int 0, .int 0])), (q1, .inl (cA, 8, .inl (fun _ => 0))), (q2, .inl (cA, 8, .inl (fun _ => 0))), (q3, .inl (cA, 48, .inl (fun _ => 0))), (q4, .inl (cA, 48, .inl (fun _ => 0)))] := hD
  refine W.widen (k := 4) (n := 112) (by omega) (by omega) ?_
  refine va_putF (D := (dC, dI)) (ci := 1) (v := .ref q4) (ty := .array .int) (C := RX1) (T := TX1) (N := 8) hx hb hts hin tyX1 tyX1_ok nmX1 hown hK hP hD hS 0 rfl rfl 3 (by decide) hf_19 (fun _ h9 => h9) rfl hnm rfl (by decide +kernel) rfl rfl (Nat.le_of_ble_eq_true rfl) dX1_init_33 (fun H locs hP hD hS => ?_)
  have hP : va_P (dC, dI) vwCl [(h, .inr (1, [.ref q1, .ref q2, .ref q3, .ref q4, .null, .int 0, .int 0, .int 0])), (q1, .inl (cA, 8, .inl (fun _ => 0))), (q2, .inl (cA, 8, .inl (fun _ => 0))), (q3, .inl (cA, 48, .inl (fun _ => 0))), (q4, .inl (cA, 48, .inl (fun _ => 0)))] H := hP
  have hD : va_D (va_A [(h, .inr (1, [.null, .null, .null, .null, .null, .int 0, .int 0, .int 0]))] s.heap.size) [(h, .inr (1, [.ref q1, .ref q2, .ref q3, .ref q4, .null, .int 0, .int 0, .int 0])), (q1, .inl (cA, 8, .inl (fun _ => 0))), (q2, .inl (cA, 8, .inl (fun _ => 0))), (q3, .inl (cA, 48, .inl (fun _ => 0))), (q4, .inl (cA, 48, .inl (fun _ => 0)))] := hD
  refine lv_aload_n hx hb dX1_init_36 rfl (lv_at hl 0 rfl) ?_
  refine lv_bipush (v := 6) hx hb dX1_init_37 (by decide) ?_
  refine va_newa (atype := .int) (ty := .int) (N' := 6) (a0 := (6, .inl (fun _ => 0))) hx hb hac rfl hK hP hD hS hA (fun _ => vp0 _ _) (by decide) (by decide) (Nat.le_of_ble_eq_true rfl) (Nat.le_of_ble_eq_true rfl) (Nat.le_of_ble_eq_true rfl) dX1_init_39 (fun q5 cB H hK hP hD hS => ?_)
  obtain rfl : cA = cB := one_cA (hK.2 0 _ rfl).2 (hK.2 1 _ rfl).2
  have hK : va_K (dC, dI) vwCl [(cA, .int)] s := hK.sub [0] rfl
  have hP : va_P (dC, dI) vwCl [(h, .inr (1, [.ref q1, .ref q2, .ref q3, .ref q4, .null, .int 0, .int 0, .int 0])), (q1, .inl (cA, 8, .inl (fun _ => 0))), (q2, .inl (cA, 8, .inl (fun _ => 0))), (q3, .inl (cA, 48, .inl (fun _ => 0))), (q4, .inl (cA, 48, .inl (fun _ => 0))), (q5, .inl (cA, 6, .inl (fun _ => 0)))] H := hP
  have hD : va_D (va_A [(h, .inr (1, [.null, .null, .null, .null, .null, .int 0, .int 0, .int 0]))] s.heap.size) [(h, .inr (1, [.ref q1, .ref q2, .ref q3, .ref q4, .null, .int 0, .int 0, .int 0])), (q1, .inl (cA, 8, .inl (fun _ => 0))), (q2, .inl (cA, 8, .inl (fun _ => 0))), (q3, .inl (cA, 48, .inl (fun _ => 0))), (q4, .inl (cA, 48, .inl (fun _ => 0))), (q5, .inl (cA, 6, .inl (fun _ => 0)))] := hD
  refine W.widen (k := 5) (n := 118) (by omega) (by omega) ?_
  refine lv_dup hx hb dX1_init_41 rfl ?_
  refine lv_iconst (v := 0) hx hb dX1_init_42 (by decide) ?_
  refine lv_iconst (v := 1) hx hb dX1_init_43 (by decide) ?_
  refine q_ast (n := 6) (k := 0) hx hb hK hP hD hS 5 0 rfl rfl (by omega) (by decide) dX1_init_44 (fun H locs hP hD hS => ?_)
  have hP : va_P (dC, dI) vwCl [(h, .inr (1, [.ref q1, .ref q2, .ref q3, .ref q4, .null, .int 0, .int 0, .int 0])), (q1, .inl (cA, 8, .inl (fun _ => 0))), (q2, .inl (cA, 8, .inl (fun _ => 0))), (q3, .inl (cA, 48, .inl (fun _ => 0))), (q4, .inl (cA, 48, .inl (fun _ => 0))), (q5, .inl (cA, 6, .inl (upd (fun _ => 0) 0 1)))] H := hP
  have hD : va_D (va_A [(h, .inr (1, [.null, .null, .null, .null, .null, .int 0, .int 0, .int 0]))] s.heap.size) [(h, .inr (1, [.ref q1, .ref q2, .ref q3, .ref q4, .null, .int 0, .int 0, .int 0])), (q1, .inl (cA, 8, .inl (fun _ => 0))), (q2, .inl (cA, 8, .inl (fun _ => 0))), (q3, .inl (cA, 48, .inl (fun _ => 0))), (q4, .inl (cA, 48, .inl (fun _ => 0))), (q5, .inl (cA, 6, .inl (upd (fun _ => 0) 0 1)))] := hD
  refine lv_dup hx hb dX1_init_45 rfl ?_
  refine lv_iconst (v := 1) hx hb dX1_init_46 (by decide) ?_
  refine lv_iconst (v := 3) hx hb dX1_init_47 (by decide) ?_
  refine q_ast (n := 6) (k := 1) hx hb hK hP hD hS 5 0 rfl rfl (by omega) (by decide) dX1_init_48 (fun H locs hP hD hS => ?_)
  have hP : va_P (dC, dI) vwCl [(h, .inr (1, [.ref q1, .ref q2, .ref q3, .ref q4, .null, .int 0, .int 0, .int 0])), (q1, .inl (cA, 8, .inl (fun _ => 0))), (q2, .inl (cA, 8, .inl (fun _ => 0))), (q3, .inl (cA, 48, .inl (fun _ => 0))), (q4, .inl (cA, 48, .inl (fun _ => 0))), (q5, .inl (cA, 6, .inl (upd (upd (fun _ => 0) 0 1) 1 3)))] H := hP
  have hD : va_D (va_A [(h, .inr (1, [.null, .null, .null, .null, .null, .int 0, .int 0, .int 0]))] s.heap.size) [(h, .inr (1, [.ref q1, .ref q2, .ref q3, .ref q4, .null, .int 0, .int 0, .int 0])), (q1, .inl (cA, 8, .inl (fun _ => 0))), (q2, .inl (cA, 8, .inl (fun _ => 0))), (q3, .inl (cA, 48, .inl (fun _ => 0))), (q4, .inl (cA, 48, .inl (fun _ => 0))), (q5, .inl (cA, 6, .inl (upd (upd (fun _ => 0) 0 1) 1 3)))] := hD
  refine lv_dup hx hb dX1_init_49 rfl ?_
  refine lv_iconst (v := 2) hx hb dX1_init_50 (by decide) ?_
  refine lv_iconst (v := 4) hx hb dX1_init_51 (by decide) ?_
  refine q_ast (n := 6) (k := 2) hx hb hK hP hD hS 5 0 rfl rfl (by omega) (by decide) dX1_init_52 (fun H locs hP hD hS => ?_)
  have hP : va_P (dC, dI) vwCl [(h, .inr (1, [.ref q1, .ref q2, .ref q3, .ref q4, .null, .int 0, .int 0, .int 0])), (q1, .inl (cA, 8, .inl (fun _ => 0))), (q2, .inl (cA, 8, .inl (fun _ => 0))), (q3, .inl (cA, 48, .inl (fun _ => 0))), (q4, .inl (cA, 48, .inl (fun _ => 0))), (q5, .inl (cA, 6, .inl (upd (upd (upd (fun _ => 0) 0 1) 1 3) 2 4)))] H := hP
  have hD : va_D (va_A [(h, .inr (1, [.null, .null, .null, .null, .null, .int 0, .int 0, .int 0]))] s.heap.size) [(h, .inr (1, [.ref q1, .ref q2, .ref q3, .ref q4, .null, .int 0, .int 0, .int 0])), (q1, .inl (cA, 8, .inl (fun _ => 0))), (q2, .inl (cA, 8, .inl (fun _ => 0))), (q3, .inl (cA, 48, .inl (fun _ => 0))), (q4, .inl (cA, 48, .inl (fun _ => 0))), (q5, .inl (cA, 6, .inl (upd (upd (upd (fun _ => 0) 0 1) 1 3) 2 4)))] := hD
  refine lv_dup hx hb dX1_init_53 rfl ?_
  refine lv_iconst (v := 3) hx hb dX1_init_54 (by decide) ?_
  refine lv_bipush (v := 6) hx hb dX1_init_55 (by decide) ?_
  refine q_ast (n := 6) (k := 3) hx hb hK hP hD hS 5 0 rfl rfl (by omega) (by decide) dX1_init_57 (fun H locs hP hD hS => ?_)
  have hP : va_P (dC, dI) vwCl [(h, .inr (1, [.ref q1, .ref q2, .ref q3, .ref q4, .null, .int 0, .int 0, .int 0])), (q1, .inl (cA, 8, .inl (fun _ => 0))), (q2, .inl (cA, 8, .inl (fun _ => 0))), (q3, .inl (cA, 48, .inl (fun _ => 0))), (q4, .inl (cA, 48, .inl (fun _ => 0))), (q5, .inl (cA, 6, .inl (upd (upd (upd (upd (fun _ => 0) 0 1) 1 3) 2 4) 3 6)))] H := hP
  have hD : va_D (va_A [(h, .inr (1, [.null, .null, .null, .null, .null, .int 0, .int 0, .int 0]))] s.heap.size) [(h, .inr (1, [.ref q1, .ref q2, .ref q3, .ref q4, .null, .int 0, .int 0, .int 0])), (q1, .inl (cA, 8, .inl (fun _ => 0))), (q2, .inl (cA, 8, .inl (fun _ => 0))), (q3, .inl (cA, 48, .inl (fun _ => 0))), (q4, .inl (cA, 48, .inl (fun _ => 0))), (q5, .inl (cA, 6, .inl (upd (upd (upd (upd (fun _ => 0) 0 1) 1 3) 2 4) 3 6)))] := hD
  refine lv_dup hx hb dX1_init_58 rfl ?_
  refine lv_iconst (v := 4) hx hb dX1_init_59 (by decide) ?_
  refine lv_iconst (v := 2) hx hb dX1_init_60 (by decide) ?_
  refine q_ast (n := 6) (k := 4) hx hb hK hP hD hS 5 0 rfl rfl (by omega) (by decide) dX1_init_61 (fun H locs hP hD hS => ?_)
  have hP : va_P (dC, dI) vwCl [(h, .inr (1, [.ref q1, .ref q2, .ref q3, .ref q4, .null, .int 0, .int 0, .int 0])), (q1, .inl (cA, 8, .inl (fun _ => 0))), (q2, .inl (cA, 8, .inl (fun _ => 0))), (q3, .inl (cA, 48, .inl (fun _ => 0))), (q4, .inl (cA, 48, .inl (fun _ => 0))), (q5, .inl (cA, 6, .inl (upd (upd (upd (upd (upd (fun _ => 0) 0 1) 1 3) 2 4) 3 6) 4 2)))] H := hP
  have hD : va_D (va_A [(h, .inr (1, [.null, .null, .null, .null, .null, .int 0, .int 0, .int 0]))] s.heap.size) [(h, .inr (1, [.ref q1, .ref q2, .ref q3, .ref q4, .null, .int 0, .int 0, .int 0])), (q1, .inl (cA, 8, .inl (fun _ => 0))), (q2, .inl (cA, 8, .inl (fun _ => 0))), (q3, .inl (cA, 48, .inl (fun _ => 0))), (q4, .inl (cA, 48, .inl (fun _ => 0))), (q5, .inl (cA, 6, .inl (upd (upd (upd (upd (upd (fun _ => 0) 0 1) 1 3) 2 4) 3 6) 4 2)))] := hD
  refine lv_dup hx hb dX1_init_62 rfl ?_
  refine lv_iconst (v := 5) hx hb dX1_init_63 (by decide) ?_
  refine lv_iconst (v := 5) hx hb dX1_init_64 (by decide) ?_
  refine q_ast (n := 6) (k := 5) hx hb hK hP hD hS 5 0 rfl rfl (by omega) (by decide) dX1_init_65 (fun H locs hP hD hS => ?_)
  have hP : va_P (dC, dI) vwCl [(h, .inr (1, [.ref q1, .ref q2, .ref q3, .ref q4, .null, .int 0, .int 0, .int 0])), (q1, .inl (cA, 8, .inl (fun _ => 0))), (q2, .inl (cA, 8, .inl (fun _ => 0))), (q3, .inl (cA, 48, .inl (fun _ => 0))), (q4, .inl (cA, 48, .inl (fun _ => 0))), (q5, .inl (cA, 6, .inl (upd (upd (upd (upd (upd (upd (fun _ => 0) 0 1) 1 3) 2 4) 3 6) 4 2) 5 5)))] H := hP
  have hD : va_D (va_A [(h, .inr (1, [.null, .null, .null, .null, .null, .int 0, .int 0, .int 0]))] s.heap.size) [(h, .inr (1, [.ref q1, .ref q2, .ref q3, .ref q4, .null, .int 0, .int 0, .int 0])), (q1, .inl (cA, 8, .inl (fun _ => 0))), (q2, .inl (cA, 8, .inl (fun _ => 0))), (q3, .inl (cA, 48, .inl (fun _ => 0))), (q4, .inl (cA, 48, .inl (fun _ => 0))), (q5, .inl (cA, 6, .inl (upd (upd (upd (upd (upd (upd (fun _ => 0) 0 1) 1 3) 2 4) 3 6) 4 2) 5 5)))] := hD
  refine va_putF (D := (dC, dI)) (ci := 1) (v := .ref q5) (ty := .array .int) (C := RX1) (T := TX1) (N := 8) hx hb hts hin tyX1 tyX1_ok nmX1 hown hK hP hD hS 0 rfl rfl 4 (by decide) hf_22 (fun _ h9 => h9) rfl hnm rfl (by decide +kernel) rfl rfl (Nat.le_of_ble_eq_true rfl) dX1_init_66 (fun H locs hP hD hS => ?_)
  have hP : va_P (dC, dI) vwCl [(h, .inr (1, [.ref q1, .ref q2, .ref q3, .ref q4, .ref q5, .int 0, .int 0, .int 0])), (q1, .inl (cA, 8, .inl (fun _ => 0))), (q2, .inl (cA, 8, .inl (fun _ => 0))), (q3, .inl (cA, 48, .inl (fun _ => 0))), (q4, .inl (cA, 48, .inl (fun _ => 0))), (q5, .inl (cA, 6, .inl (upd (upd (upd (upd (upd (upd (fun _ => 0) 0 1) 1 3) 2 4) 3 6) 4 2) 5 5)))] H := hP
  have hD : va_D (va_A [(h, .inr (1, [.null, .null, .null, .null, .null, .int 0, .int 0, .int 0]))] s.heap.size) [(h, .inr (1, [.ref q1, .ref q2, .ref q3, .ref q4, .ref q5, .int 0, .int 0, .int 0])), (q1, .inl (cA, 8, .inl (fun _ => 0))), (q2, .inl (cA, 8, .inl (fun _ => 0))), (q3, .inl (cA, 48, .inl (fun _ => 0))), (q4, .inl (cA, 48, .inl (fun _ => 0))), (q5, .inl (cA, 6, .inl (upd (upd (upd (upd (upd (upd (fun _ => 0) 0 1) 1 3) 2 4) 3 6) 4 2) 5 5)))] := hD
  refine lv_aload_n hx hb dX1_init_69 rfl (lv_at hl 0 rfl) ?_
  refine lv_iconst (v := 0) hx hb dX1_init_70 (by decide) ?_
  refine va_put (D := (dC, dI)) (ci := 1) (v := .int 0) (ty := .int) (C := RX1) (T := TX1) (N := 8) hx hb hts hin tyX1 tyX1_ok nmX1 hown hK hP hD hS 0 rfl rfl 6 (by decide) hf_25 (fun _ h9 => h9) rfl (by decide +kernel) rfl rfl (Nat.le_of_ble_eq_true rfl) dX1_init_71 (fun H locs hP hD hS => ?_)
  have hP : va_P (dC, dI) vwCl [(h, .inr (1, [.ref q1, .ref q2, .ref q3, .ref q4, .ref q5, .int 0, .int 0, .int 0])), (q1, .inl (cA, 8, .inl (fun _ => 0))), (q2, .inl (cA, 8, .inl (fun _ => 0))), (q3, .inl (cA, 48, .inl (fun _ => 0))), (q4, .inl (cA, 48, .inl (fun _ => 0))), (q5, .inl (cA, 6, .inl (upd (upd (upd (upd (upd (upd (fun _ => 0) 0 1) 1 3) 2 4) 3 6) 4 2) 5 5)))] H := hP
  have hD : va_D (va_A [(h, .inr (1, [.null, .null, .null, .null, .null, .int 0, .int 0, .int 0]))] s.heap.size) [(h, .inr (1, [.ref q1, .ref q2, .ref q3, .ref q4, .ref q5, .int 0, .int 0, .int 0])), (q1, .inl (cA, 8, .inl (fun _ => 0))), (q2, .inl (cA, 8, .inl (fun _ => 0))), (q3, .inl (cA, 48, .inl (fun _ => 0))), (q4, .inl (cA, 48, .inl (fun _ => 0))), (q5, .inl (cA, 6, .inl (upd (upd (upd (upd (upd (upd (fun _ => 0) 0 1) 1 3) 2 4) 3 6) 4 2) 5 5)))] := hD
  refine lv_aload_n hx hb dX1_init_74 rfl (lv_at hl 0 rfl) ?_
  refine lv_bipush (v := 100) hx hb dX1_init_75 (by decide) ?_
  refine va_put (D := (dC, dI)) (ci := 1) (v := .int 100) (ty := .int) (C := RX1) (T := TX1) (N := 8) hx hb hts hin tyX1 tyX1_ok nmX1 hown hK hP hD hS 0 rfl rfl 7 (by decide) hf_29 (fun _ h9 => h9) rfl (by decide +kernel) rfl rfl (Nat.le_of_ble_eq_true rfl) dX1_init_77 (fun H locs hP hD hS => ?_)
  have hP : va_P (dC, dI) vwCl [(h, .inr (1, [.ref q1, .ref q2, .ref q3, .ref q4, .ref q5, .int 0, .int 0, .int 100])), (q1, .inl (cA, 8, .inl (fun _ => 0))), (q2, .inl (cA, 8, .inl (fun _ => 0))), (q3, .inl (cA, 48, .inl (fun _ => 0))), (q4, .inl (cA, 48, .inl (fun _ => 0))), (q5, .inl (cA, 6, .inl (upd (upd (upd (upd (upd (upd (fun _ => 0) 0 1) 1 3) 2 4) 3 6) 4 2) 5 5)))] H := hP
  have hD : va_D (va_A [(h, .inr (1, [.null, .null, .null, .null, .null, .int 0, .int 0, .int 0]))] s.heap.size) [(h, .inr (1, [.ref q1, .ref q2, .ref q3, .ref q4, .ref q5, .int 0, .int 0, .int 100])), (q1, .inl (cA, 8, .inl (fun _ => 0))), (q2, .inl (cA, 8, .inl (fun _ => 0))), (q3, .inl (cA, 48, .inl (fun _ => 0))), (q4, .inl (cA, 48, .inl (fun _ => 0))), (q5, .inl (cA, 6, .inl (upd (upd (upd (upd (upd (upd (fun _ => 0) 0 1) 1 3) 2 4) 3 6) 4 2) 5 5)))] := hD
  exact W.vret hx hb hr (fun t ht hW => ⟨⟨(), rfl, trivial, q1, q2, q3, q4, q5, cA, (fun _ => 0), (fun _ => 0), (upd (upd (upd (upd (upd (upd (fun _ => 0) 0 1) 1 3) 2 4) 3 6) 4 2) 5 5), ⟨rfl, rfl, rfl, rfl, rfl, rfl⟩, by rw [ht]; exact hP, va_K.moved hW.alike hK, hD⟩, hS.F ht⟩) hS.2.2 dX1_init_80 hlk
