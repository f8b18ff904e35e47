def a0Told (fj fm : Nat → Int32) (M V : Nat → Nat → Int32) (n : Nat) (rec lim w : Int32) : Int32 := if w = 0 then nI n else if w = 1 then sumI fj n else if w = 2 then sumI fj n - nI (cntB (fun k => !decide (fm k = 0)) 48) else if w = 3 then nI (sumN (fun j => cntB (lgl M V lim j) 6) n) else if w = 4 then rec else if w = 5 then lim else -1000
theorem tOut6 {x : Int32} (h0 : ¬ x = 0) (h1 : ¬ x = 1) (h2 : ¬ x = 2) (h3 : ¬ x = 3) (h4 : ¬ x = 4) (h5 : ¬ x = 5) : x.toInt < 0 ∨ 5 < x.toInt := by
  have a0 := lv_neT (a := 0) h0 rfl
  have a1 := lv_neT (a := 1) h1 rfl
  have a2 := lv_neT (a := 2) h2 rfl
  have a3 := lv_neT (a := 3) h3 rfl
  have a4 := lv_neT (a := 4) h4 rfl
  have a5 := lv_neT (a := 5) h5 rfl
  omega
theorem qst_j {n h w x v : Int32} (q : qst n h w x v = true) : jmp n x = true := by
  simp [qst] at q
  exact q.2.2.1
theorem qst_h {n h w x v : Int32} (q : qst n h w x v = true) : hwo h = true := by
  simp [qst] at q
  exact q.1
theorem lenB_le (q : Nat → Bool) (i : Nat) : lenB q i ≤ i := by
  induction i with
  | zero => exact Nat.le_refl 0
  | succ i ih =>
    simp only [lenB]
    split <;> omega
theorem mostB_le (q : Nat → Bool) (i : Nat) : mostB q i ≤ i := by
  induction i with
  | zero => exact Nat.le_refl 0
  | succ i ih =>
    have := lenB_le q (i + 1)
    simp only [mostB]
    split <;> omega
theorem mostB_nI {q : Nat → Bool} {i : Nat} (h : i < 6) : (if nI (mostB q i) < nI (lenB q (i + 1)) then nI (lenB q (i + 1)) else nI (mostB q i)) = nI (mostB q (i + 1)) := by
  have a := lenB_le q (i + 1)
  have b := mostB_le q i
  simp only [mostB]
  by_cases c : mostB q i < lenB q (i + 1)
  · rw [if_pos c, if_pos (nI_lt c (by omega))]
  · rw [if_neg c, if_neg (nI_nlt (by omega) (by omega))]
theorem skpF_eq {q : Nat → Bool} {i : Nat} (h : i < 6) : skpF q (6 - i) i = if q i = true then skpF q (6 - (i + 1)) (i + 1) else i := by
  rw [show 6 - i = (6 - (i + 1)) + 1 by omega]
  rfl
theorem hdX0_value : yX0_value.cls = RX0 ∧ yX0_value.cls ≠ "java/lang/invoke/MethodHandle" ∧ yX0_value.cls ≠ "java/lang/invoke/VarHandle" ∧ (parseMethodDescriptor yX0_value.desc).map (fun d => d.parameters.length) = some 3 := by decide +kernel
set_option maxHeartbeats 4000000 in
set_option maxRecDepth 100000 in
theorem mX0_value (l : Launch) (dC : Nat → ClassId) (dI : Nat → Nat → Nat) (h qb qj qm qw qr : Nat) (cA : ClassId) (n : Nat) (rec lim : Int32) (fb fj fm fw fr : Nat → Int32) (w : Int32) (x : Int32) (r : Int32) (hn : n ≤ 8) : Met l yX0_value wsX0_value ({ frames := 2, cells := 0, slots := 0, locals := 44 }) (va_Pc [.ref h, .int w, .int x, .int r] (fun U => va_P (dC, dI) vwCl (wX h qb qj qm qw qr cA (nI n) rec lim fb fj fm fw fr) U.heap ∧ va_K (dC, dI) vwCl [(cA, .int)] U)) (QcRead (aValue (mk fm) (mk fw) (nI n) w x r)) 0 0 (fun _ => False) := by
  refine Met.ofW (cc := cX0_value) (maxL := 4) (ret := (some .int)) (by decide) rfl ?_
  intro p e s m args below meth c s₁ B hml hv
  obtain ⟨rfl, hP, hK⟩ := hv
  have hx := B.exec
  have hb := B.bytes
  have hr := B.returns
  have hts := atoms_spec (ws := wsX0_value) B.pre
  have hown : s.vm.findClass RX0 = some m.cls := findClass_of_methodNamed B.named
  have hlk := B.notSynchronized
  have hl := lv_entry ([.ref h, .int w, .int x, .int r]) (n := 4) (Nat.le_of_ble_eq_true rfl)
  rw [lg_entry_eq]
  generalize (lg_sl ([.ref h, .int w, .int x, .int r]) ++ List.replicate (4 - (lg_sl ([.ref h, .int w, .int x, .int r])).length) Slot.unset).toArray = ls at hl ⊢
  have hl : lv_has ls 4 [(0, .ref h), (1, .int w), (2, .int x), (3, .int r)] := hl
  refine lv_iload_n hx hb dX0_value_0 rfl (lv_at hl 1 rfl) ?_
  refine q_cs [.int w] (rest := []) ⟨hx, hb, hml, hown, hts⟩ (mX0_isWhat l w) gX0_value_X0_isWhat rfl rfl rfl hdX0_isWhat ⟨Nat.le_of_ble_eq_true rfl, Nat.le_of_ble_eq_true rfl⟩ rfl hl.1 rfl (Nat.le_of_ble_eq_true rfl) dX0_value_1 ⟨Nat.zero_le _, Nat.zero_le _⟩ ?_
  refine lv_if_eq (tgt := 22) hx hb dX0_value_4 (by decide) (fun c_1 => ?_) (fun c_1 => ?_)
  · skip
    have c_1 : (wht w) = false := b2i_0 c_1
    refine lv_sipush (v := (-1000)) hx hb dX0_value_22 (by decide) ?_
    exact q_ri hx hb hr hlk (by simp [aValue, c_1]) dX0_value_25
  · skip
    have c_1 : (wht w) = true := b2i_n c_1
    refine lv_aload_n hx hb dX0_value_7 rfl (lv_at hl 0 rfl) ?_
    refine lv_iload_n hx hb dX0_value_8 rfl (lv_at hl 2 rfl) ?_
    refine q_cv [.int x] (rest := []) ⟨hx, hb, hml, hown, hts⟩ (mX0_isJumper l dC dI h qb qj qm qw qr cA n rec lim fb fj fm fw fr x) gX0_value_X0_isJumper rfl rfl rfl hdX0_isJumper ⟨Nat.le_of_ble_eq_true rfl, Nat.le_of_ble_eq_true rfl⟩ rfl hK hP rfl rfl hl.1 rfl (Nat.le_of_ble_eq_true rfl) dX0_value_9 ⟨Nat.zero_le _, Nat.zero_le _⟩ ?_
    refine lv_if_eq (tgt := 22) hx hb dX0_value_12 (by decide) (fun c_2 => ?_) (fun c_2 => ?_)
    · skip
      have c_2 : (jmp (nI n) x) = false := b2i_0 c_2
      refine lv_sipush (v := (-1000)) hx hb dX0_value_22 (by decide) ?_
      exact q_ri hx hb hr hlk (by simp [aValue, c_1, c_2]) dX0_value_25
    · skip
      have c_2 : (jmp (nI n) x) = true := b2i_n c_2
      refine lv_iload_n hx hb dX0_value_15 rfl (lv_at hl 3 rfl) ?_
      refine q_cs [.int r] (rest := []) ⟨hx, hb, hml, hown, hts⟩ (mX0_isRound l r) gX0_value_X0_isRound rfl rfl rfl hdX0_isRound ⟨Nat.le_of_ble_eq_true rfl, Nat.le_of_ble_eq_true rfl⟩ rfl hl.1 rfl (Nat.le_of_ble_eq_true rfl) dX0_value_16 ⟨Nat.zero_le _, Nat.zero_le _⟩ ?_
      refine lv_if_ne (tgt := 26) hx hb dX0_value_19 (by decide) (fun c_3 => ?_) (fun c_3 => ?_)
      · skip
        have c_3 : (rnd r) = true := b2i_n c_3
        obtain ⟨j, hj, rfl⟩ := jmp_of c_2 hn
        obtain ⟨r6, hr6, rfl⟩ := rnd_of c_3
        refine lv_aload_n hx hb dX0_value_26 rfl (lv_at hl 0 rfl) ?_
        refine lv_iload_n hx hb dX0_value_27 rfl (lv_at hl 1 rfl) ?_
        refine lv_iload_n hx hb dX0_value_28 rfl (lv_at hl 2 rfl) ?_
        refine lv_iload_n hx hb dX0_value_29 rfl (lv_at hl 3 rfl) ?_
        refine q_cv [.int w, .int (nI j), .int (nI r6)] (rest := []) ⟨hx, hb, hml, hown, hts⟩ (mX0_valueOf l dC dI h qb qj qm qw qr cA n rec lim fb fj fm fw fr w j r6 (by omega) (by omega)) gX0_value_X0_valueOf rfl rfl rfl hdX0_valueOf ⟨Nat.le_of_ble_eq_true rfl, Nat.le_of_ble_eq_true rfl⟩ rfl hK hP rfl rfl hl.1 rfl (Nat.le_of_ble_eq_true rfl) dX0_value_30 ⟨Nat.zero_le _, Nat.zero_le _⟩ ?_
        exact q_ri hx hb hr hlk (by rw [aValue, if_pos (by simp [c_1, c_2, c_3]), nI_clamp (by omega), nI_clamp (by omega)]) dX0_value_33
      · skip
        have c_3 : (rnd r) = false := b2i_0 c_3
        refine lv_sipush (v := (-1000)) hx hb dX0_value_22 (by decide) ?_
        exact q_ri hx hb hr hlk (by simp [aValue, c_1, c_2, c_3]) dX0_value_25

theorem hdX0_fits : yX0_fits.cls = RX0 ∧ yX0_fits.cls ≠ "java/lang/invoke/MethodHandle" ∧ yX0_fits.cls ≠ "java/lang/invoke/VarHandle" ∧ (parseMethodDescriptor yX0_fits.desc).map (fun d => d.parameters.length) = some 5 := by decide +kernel
set_option maxHeartbeats 4000000 in
set_option maxRecDepth 100000 in
theorem mX0_fits (l : Launch) (dC : Nat → ClassId) (dI : Nat → Nat → Nat) (h qb qj qm qw qr : Nat) (cA : ClassId) (n : Nat) (rec lim : Int32) (fb fj fm fw fr : Nat → Int32) (k : Int32) (w : Int32) (x : Int32) (a : Int32) (b : Int32) (hn : n ≤ 8) : Met l yX0_fits wsX0_fits ({ frames := 2, cells := 0, slots := 0, locals := 45 }) (va_Pc [.ref h, .int k, .int w, .int x, .int a, .int b] (fun U => va_P (dC, dI) vwCl (wX h qb qj qm qw qr cA (nI n) rec lim fb fj fm fw fr) U.heap ∧ va_K (dC, dI) vwCl [(cA, .int)] U)) (QcRead (aFits (mk fm) (mk fw) (nI n) k w x a b)) 0 0 (fun _ => False) := by
  refine Met.ofW (cc := cX0_fits) (maxL := 6) (ret := (some .int)) (by decide) rfl ?_
  intro p e s m args below meth c s₁ B hml hv
  obtain ⟨rfl, hP, hK⟩ := hv
  have hx := B.exec
  have hb := B.bytes
  have hr := B.returns
  have hts := atoms_spec (ws := wsX0_fits) B.pre
  have hown : s.vm.findClass RX0 = some m.cls := findClass_of_methodNamed B.named
  have hlk := B.notSynchronized
  have hl := lv_entry ([.ref h, .int k, .int w, .int x, .int a, .int b]) (n := 6) (Nat.le_of_ble_eq_true rfl)
  rw [lg_entry_eq]
  generalize (lg_sl ([.ref h, .int k, .int w, .int x, .int a, .int b]) ++ List.replicate (6 - (lg_sl ([.ref h, .int k, .int w, .int x, .int a, .int b])).length) Slot.unset).toArray = ls at hl ⊢
  have hl : lv_has ls 6 [(0, .ref h), (1, .int k), (2, .int w), (3, .int x), (4, .int a), (5, .int b)] := hl
  refine lv_iload_n hx hb dX0_fits_0 rfl (lv_at hl 1 rfl) ?_
  refine q_cs [.int k] (rest := []) ⟨hx, hb, hml, hown, hts⟩ (mX0_isHow l k) gX0_fits_X0_isHow rfl rfl rfl hdX0_isHow ⟨Nat.le_of_ble_eq_true rfl, Nat.le_of_ble_eq_true rfl⟩ rfl hl.1 rfl (Nat.le_of_ble_eq_true rfl) dX0_fits_1 ⟨Nat.zero_le _, Nat.zero_le _⟩ ?_
  refine lv_if_eq (tgt := 38) hx hb dX0_fits_4 (by decide) (fun c_1 => ?_) (fun c_1 => ?_)
  · skip
    have c_1 : (hwo k) = false := b2i_0 c_1
    refine lv_sipush (v := (-1000)) hx hb dX0_fits_38 (by decide) ?_
    exact q_ri hx hb hr hlk (by simp [aFits, c_1]) dX0_fits_41
  · skip
    have c_1 : (hwo k) = true := b2i_n c_1
    refine lv_iload_n hx hb dX0_fits_7 rfl (lv_at hl 2 rfl) ?_
    refine q_cs [.int w] (rest := []) ⟨hx, hb, hml, hown, hts⟩ (mX0_isWhat l w) gX0_fits_X0_isWhat rfl rfl rfl hdX0_isWhat ⟨Nat.le_of_ble_eq_true rfl, Nat.le_of_ble_eq_true rfl⟩ rfl hl.1 rfl (Nat.le_of_ble_eq_true rfl) dX0_fits_8 ⟨Nat.zero_le _, Nat.zero_le _⟩ ?_
    refine lv_if_eq (tgt := 38) hx hb dX0_fits_11 (by decide) (fun c_2 => ?_) (fun c_2 => ?_)
    · skip
      have c_2 : (wht w) = false := b2i_0 c_2
      refine lv_sipush (v := (-1000)) hx hb dX0_fits_38 (by decide) ?_
      exact q_ri hx hb hr hlk (by simp [aFits, c_1, c_2]) dX0_fits_41
    · skip
      have c_2 : (wht w) = true := b2i_n c_2
      refine lv_aload_n hx hb dX0_fits_14 rfl (lv_at hl 0 rfl) ?_
      refine lv_iload_n hx hb dX0_fits_15 rfl (lv_at hl 3 rfl) ?_
      refine q_cv [.int x] (rest := []) ⟨hx, hb, hml, hown, hts⟩ (mX0_isJumper l dC dI h qb qj qm qw qr cA n rec lim fb fj fm fw fr x) gX0_fits_X0_isJumper rfl rfl rfl hdX0_isJumper ⟨Nat.le_of_ble_eq_true rfl, Nat.le_of_ble_eq_true rfl⟩ rfl hK hP rfl rfl hl.1 rfl (Nat.le_of_ble_eq_true rfl) dX0_fits_16 ⟨Nat.zero_le _, Nat.zero_le _⟩ ?_
      refine lv_if_eq (tgt := 38) hx hb dX0_fits_19 (by decide) (fun c_3 => ?_) (fun c_3 => ?_)
      · skip
        have c_3 : (jmp (nI n) x) = false := b2i_0 c_3
        refine lv_sipush (v := (-1000)) hx hb dX0_fits_38 (by decide) ?_
        exact q_ri hx hb hr hlk (by simp [aFits, c_1, c_2, c_3]) dX0_fits_41
      · skip
        have c_3 : (jmp (nI n) x) = true := b2i_n c_3
        refine lv_iload hx hb dX0_fits_22 (lv_at hl 4 rfl) ?_
        refine q_cs [.int a] (rest := []) ⟨hx, hb, hml, hown, hts⟩ (mX0_isRound l a) gX0_fits_X0_isRound rfl rfl rfl hdX0_isRound ⟨Nat.le_of_ble_eq_true rfl, Nat.le_of_ble_eq_true rfl⟩ rfl hl.1 rfl (Nat.le_of_ble_eq_true rfl) dX0_fits_24 ⟨Nat.zero_le _, Nat.zero_le _⟩ ?_
        refine lv_if_eq (tgt := 38) hx hb dX0_fits_27 (by decide) (fun c_4 => ?_) (fun c_4 => ?_)
        · skip
          have c_4 : (rnd a) = false := b2i_0 c_4
          refine lv_sipush (v := (-1000)) hx hb dX0_fits_38 (by decide) ?_
          exact q_ri hx hb hr hlk (by simp [aFits, c_1, c_2, c_3, c_4]) dX0_fits_41
        · skip
          have c_4 : (rnd a) = true := b2i_n c_4
          refine lv_iload hx hb dX0_fits_30 (lv_at hl 5 rfl) ?_
          refine q_cs [.int b] (rest := []) ⟨hx, hb, hml, hown, hts⟩ (mX0_isRound l b) gX0_fits_X0_isRound rfl rfl rfl hdX0_isRound ⟨Nat.le_of_ble_eq_true rfl, Nat.le_of_ble_eq_true rfl⟩ rfl hl.1 rfl (Nat.le_of_ble_eq_true rfl) dX0_fits_32 ⟨Nat.zero_le _, Nat.zero_le _⟩ ?_
          refine lv_if_ne (tgt := 42) hx hb dX0_fits_35 (by decide) (fun c_5 => ?_) (fun c_5 => ?_)
          · skip
            have c_5 : (rnd b) = true := b2i_n c_5
            obtain ⟨j, hj, rfl⟩ := jmp_of c_3 hn
            obtain ⟨a6, ha6, rfl⟩ := rnd_of c_4
            obtain ⟨b6, hb6, rfl⟩ := rnd_of c_5
            refine lv_iload_n hx hb dX0_fits_42 rfl (lv_at hl 1 rfl) ?_
            refine lv_iload_n hx hb dX0_fits_43 rfl (lv_at hl 2 rfl) ?_
            refine lv_aload_n hx hb dX0_fits_44 rfl (lv_at hl 0 rfl) ?_
            refine lv_iload_n hx hb dX0_fits_45 rfl (lv_at hl 2 rfl) ?_
            refine lv_iload_n hx hb dX0_fits_46 rfl (lv_at hl 3 rfl) ?_
            refine lv_iload hx hb dX0_fits_47 (lv_at hl 4 rfl) ?_
            refine q_cv [.int w, .int (nI j), .int (nI a6)] (rest := [.int w, .int k]) ⟨hx, hb, hml, hown, hts⟩ (mX0_valueOf l dC dI h qb qj qm qw qr cA n rec lim fb fj fm fw fr w j a6 (by omega) (by omega)) gX0_fits_X0_valueOf rfl rfl rfl hdX0_valueOf ⟨Nat.le_of_ble_eq_true rfl, Nat.le_of_ble_eq_true rfl⟩ rfl hK hP rfl rfl hl.1 rfl (Nat.le_of_ble_eq_true rfl) dX0_fits_49 ⟨Nat.zero_le _, Nat.zero_le _⟩ ?_
            refine lv_aload_n hx hb dX0_fits_52 rfl (lv_at hl 0 rfl) ?_
            refine lv_iload_n hx hb dX0_fits_53 rfl (lv_at hl 2 rfl) ?_
            refine lv_iload_n hx hb dX0_fits_54 rfl (lv_at hl 3 rfl) ?_
            refine lv_iload hx hb dX0_fits_55 (lv_at hl 5 rfl) ?_
            refine q_cv [.int w, .int (nI j), .int (nI b6)] (rest := [.int (vlu (mk fm) (mk fw) w j a6), .int w, .int k]) ⟨hx, hb, hml, hown, hts⟩ (mX0_valueOf l dC dI h qb qj qm qw qr cA n rec lim fb fj fm fw fr w j b6 (by omega) (by omega)) gX0_fits_X0_valueOf rfl rfl rfl hdX0_valueOf ⟨Nat.le_of_ble_eq_true rfl, Nat.le_of_ble_eq_true rfl⟩ rfl hK hP rfl rfl hl.1 rfl (Nat.le_of_ble_eq_true rfl) dX0_fits_57 ⟨Nat.zero_le _, Nat.zero_le _⟩ ?_
            refine q_cs [.int k, .int w, .int (vlu (mk fm) (mk fw) w j a6), .int (vlu (mk fm) (mk fw) w j b6)] (rest := []) ⟨hx, hb, hml, hown, hts⟩ (mX0_valueFits l k w (vlu (mk fm) (mk fw) w j a6) (vlu (mk fm) (mk fw) w j b6)) gX0_fits_X0_valueFits rfl rfl rfl hdX0_valueFits ⟨Nat.le_of_ble_eq_true rfl, Nat.le_of_ble_eq_true rfl⟩ rfl hl.1 rfl (Nat.le_of_ble_eq_true rfl) dX0_fits_60 ⟨Nat.zero_le _, Nat.zero_le _⟩ ?_
            refine lv_if_eq (tgt := 70) hx hb dX0_fits_63 (by decide) (fun c_6 => ?_) (fun c_6 => ?_)
            · skip
              have c_6 : (fitv k w (vlu (mk fm) (mk fw) w j a6) (vlu (mk fm) (mk fw) w j b6)) = false := b2i_0 c_6
              refine lv_iconst (v := 0) hx hb dX0_fits_70 (by decide) ?_
              exact q_ri hx hb hr hlk (by rw [aFits, if_pos (by simp [c_1, c_2, c_3, c_4, c_5]), nI_clamp (by omega), nI_clamp (by omega), nI_clamp (by omega), c_6]; rfl) dX0_fits_71
            · skip
              have c_6 : (fitv k w (vlu (mk fm) (mk fw) w j a6) (vlu (mk fm) (mk fw) w j b6)) = true := b2i_n c_6
              refine lv_iconst (v := 1) hx hb dX0_fits_66 (by decide) ?_
              refine lv_goto (tgt := 71) hx hb dX0_fits_67 (by decide) ?_
              exact q_ri hx hb hr hlk (by rw [aFits, if_pos (by simp [c_1, c_2, c_3, c_4, c_5]), nI_clamp (by omega), nI_clamp (by omega), nI_clamp (by omega), c_6]; rfl) dX0_fits_71
          · skip
            have c_5 : (rnd b) = false := b2i_0 c_5
            refine lv_sipush (v := (-1000)) hx hb dX0_fits_38 (by decide) ?_
            exact q_ri hx hb hr hlk (by simp [aFits, c_1, c_2, c_3, c_4, c_5]) dX0_fits_41

theorem hdX0_count : yX0_count.cls = RX0 ∧ yX0_count.cls ≠ "java/lang/invoke/MethodHandle" ∧ yX0_count.cls ≠ "java/lang/invoke/VarHandle" ∧ (parseMethodDescriptor yX0_count.desc).map (fun d => d.parameters.length) = some 4 := by decide +kernel
set_option maxHeartbeats 4000000 in
set_option maxRecDepth 100000 in
theorem mX0_count (l : Launch) (dC : Nat → ClassId) (dI : Nat → Nat → Nat) (h qb qj qm qw qr : Nat) (cA : ClassId) (n : Nat) (rec lim : Int32) (fb fj fm fw fr : Nat → Int32) (k : Int32) (w : Int32) (x : Int32) (v : Int32) (hn : n ≤ 8) : Met l yX0_count wsX0_count ({ frames := 2, cells := 0, slots := 0, locals := 45 }) (va_Pc [.ref h, .int k, .int w, .int x, .int v] (fun U => va_P (dC, dI) vwCl (wX h qb qj qm qw qr cA (nI n) rec lim fb fj fm fw fr) U.heap ∧ va_K (dC, dI) vwCl [(cA, .int)] U)) (QcRead (aCount (mk fm) (mk fw) (nI n) k w x v)) 0 0 (fun _ => False) := by
  refine Met.ofW (cc := cX0_count) (maxL := 7) (ret := (some .int)) (by decide) rfl ?_
  intro p e s m args below meth c s₁ B hml hv
  obtain ⟨rfl, hP, hK⟩ := hv
  have hx := B.exec
  have hb := B.bytes
  have hr := B.returns
  have hts := atoms_spec (ws := wsX0_count) B.pre
  have hown : s.vm.findClass RX0 = some m.cls := findClass_of_methodNamed B.named
  have hlk := B.notSynchronized
  have hl := lv_entry ([.ref h, .int k, .int w, .int x, .int v]) (n := 7) (Nat.le_of_ble_eq_true rfl)
  rw [lg_entry_eq]
  generalize (lg_sl ([.ref h, .int k, .int w, .int x, .int v]) ++ List.replicate (7 - (lg_sl ([.ref h, .int k, .int w, .int x, .int v])).length) Slot.unset).toArray = ls at hl ⊢
  have hl : lv_has ls 7 [(0, .ref h), (1, .int k), (2, .int w), (3, .int x), (4, .int v)] := hl
  refine lv_aload_n hx hb dX0_count_0 rfl (lv_at hl 0 rfl) ?_
  refine lv_iload_n hx hb dX0_count_1 rfl (lv_at hl 1 rfl) ?_
  refine lv_iload_n hx hb dX0_count_2 rfl (lv_at hl 2 rfl) ?_
  refine lv_iload_n hx hb dX0_count_3 rfl (lv_at hl 3 rfl) ?_
  refine lv_iload hx hb dX0_count_4 (lv_at hl 4 rfl) ?_
  refine q_cv [.int k, .int w, .int x, .int v] (rest := []) ⟨hx, hb, hml, hown, hts⟩ (mX0_isQuestion l dC dI h qb qj qm qw qr cA n rec lim fb fj fm fw fr k w x v) gX0_count_X0_isQuestion rfl rfl rfl hdX0_isQuestion ⟨Nat.le_of_ble_eq_true rfl, Nat.le_of_ble_eq_true rfl⟩ rfl hK hP rfl rfl hl.1 rfl (Nat.le_of_ble_eq_true rfl) dX0_count_6 ⟨Nat.zero_le _, Nat.zero_le _⟩ ?_
  refine lv_if_ne (tgt := 16) hx hb dX0_count_9 (by decide) (fun c_1 => ?_) (fun c_1 => ?_)
  · skip
    have c_1 : (qst (nI n) k w x v) = true := b2i_n c_1
    obtain ⟨j, hj, rfl⟩ := jmp_of (qst_j c_1) hn
    refine lv_iconst (v := 0) hx hb dX0_count_16 (by decide) ?_
    refine lv_istore (lv' := [(5, .int 0), (0, .ref h), (1, .int k), (2, .int w), (3, .int (nI j)), (4, .int v)]) hx hb dX0_count_17 hl (by decide) rfl (fun ls hl => ?_)
    refine lv_iconst (v := 0) hx hb dX0_count_19 (by decide) ?_
    refine lv_istore (lv' := [(6, .int 0), (5, .int 0), (0, .ref h), (1, .int k), (2, .int w), (3, .int (nI j)), (4, .int v)]) hx hb dX0_count_20 hl (by decide) rfl (fun ls hl => ?_)
    refine q_lp (head := 22) (6) (fun i => [(0, .ref h), (1, .int k), (2, .int w), (3, .int (nI j)), (4, .int v), (5, .int (nI (cntB (fun r => fitv k w (vlu (mk fm) (mk fw) w j r) v) i))), (6, .int (nI i))]) (fun i => True) (0) (by omega) (trivial) (q_hl (lv_sub (l' := [(0, .ref h), (1, .int k), (2, .int w), (3, .int (nI j)), (4, .int v), (5, .int 0), (6, .int 0)]) hl [2, 3, 4, 5, 6, 1, 0] rfl) (q_ck (q_ck (q_ck (q_ck (q_ck (q_ce (by rfl) (q_ce (by rfl) (rfl))))))))) ?_ ?_
    · intro i hi_i hI_i ih_i ls hl
      have hl : lv_has ls 7 [(0, .ref h), (1, .int k), (2, .int w), (3, .int (nI j)), (4, .int v), (5, .int (nI (cntB (fun r => fitv k w (vlu (mk fm) (mk fw) w j r) v) i))), (6, .int (nI i))] := hl
      refine lv_iload hx hb dX0_count_22 (lv_at hl 6 rfl) ?_
      refine lv_bipush (v := 6) hx hb dX0_count_24 (by decide) ?_
      refine lv_icmp_ge (tgt := 56) hx hb dX0_count_26 (by decide) (fun c_2 => absurd c_2 (nI_ge (b := 6) hi_i (by decide))) (fun c_2 => ?_)
      refine lv_iload_n hx hb dX0_count_29 rfl (lv_at hl 1 rfl) ?_
      refine lv_iload_n hx hb dX0_count_30 rfl (lv_at hl 2 rfl) ?_
      refine lv_aload_n hx hb dX0_count_31 rfl (lv_at hl 0 rfl) ?_
      refine lv_iload_n hx hb dX0_count_32 rfl (lv_at hl 2 rfl) ?_
      refine lv_iload_n hx hb dX0_count_33 rfl (lv_at hl 3 rfl) ?_
      refine lv_iload hx hb dX0_count_34 (lv_at hl 6 rfl) ?_
      refine q_cv [.int w, .int (nI j), .int (nI i)] (rest := [.int w, .int k]) ⟨hx, hb, hml, hown, hts⟩ (mX0_valueOf l dC dI h qb qj qm qw qr cA n rec lim fb fj fm fw fr w j i (by omega) (by omega)) gX0_count_X0_valueOf rfl rfl rfl hdX0_valueOf ⟨Nat.le_of_ble_eq_true rfl, Nat.le_of_ble_eq_true rfl⟩ rfl hK hP rfl rfl hl.1 rfl (Nat.le_of_ble_eq_true rfl) dX0_count_36 ⟨Nat.zero_le _, Nat.zero_le _⟩ ?_
      refine lv_iload hx hb dX0_count_39 (lv_at hl 4 rfl) ?_
      refine q_cs [.int k, .int w, .int (vlu (mk fm) (mk fw) w j i), .int v] (rest := []) ⟨hx, hb, hml, hown, hts⟩ (mX0_valueFits l k w (vlu (mk fm) (mk fw) w j i) v) gX0_count_X0_valueFits rfl rfl rfl hdX0_valueFits ⟨Nat.le_of_ble_eq_true rfl, Nat.le_of_ble_eq_true rfl⟩ rfl hl.1 rfl (Nat.le_of_ble_eq_true rfl) dX0_count_41 ⟨Nat.zero_le _, Nat.zero_le _⟩ ?_
      refine lv_if_eq (tgt := 50) hx hb dX0_count_44 (by decide) (fun c_3 => ?_) (fun c_3 => ?_)
      · skip
        have c_3 : (fitv k w (vlu (mk fm) (mk fw) w j i) v) = false := b2i_0 c_3
        refine lv_iinc (v := (nI (i + 1))) (lv' := [(6, .int (nI (i + 1))), (0, .ref h), (1, .int k), (2, .int w), (3, .int (nI j)), (4, .int v), (5, .int (nI (cntB (fun r => fitv k w (vlu (mk fm) (mk fw) w j r) v) i)))]) hx hb dX0_count_50 hl (k := 6) rfl (by exact nI_1 _) (by decide) rfl (fun ls hl => ?_)
        refine lv_goto (tgt := 22) hx hb dX0_count_53 (by decide) ?_
        exact ih_i (by exact trivial) ls (q_hl (lv_sub (l' := [(0, .ref h), (1, .int k), (2, .int w), (3, .int (nI j)), (4, .int v), (5, .int (nI (cntB (fun r => fitv k w (vlu (mk fm) (mk fw) w j r) v) i))), (6, .int (nI (i + 1)))]) hl [1, 2, 3, 4, 5, 6, 0] rfl) (q_ck (q_ck (q_ck (q_ck (q_ck (q_ce (by simp [cntB, c_1, c_3]) (q_ck (rfl)))))))))
      · skip
        have c_3 : (fitv k w (vlu (mk fm) (mk fw) w j i) v) = true := b2i_n c_3
        refine lv_iinc (v := (nI ((cntB (fun r => fitv k w (vlu (mk fm) (mk fw) w j r) v) i) + 1))) (lv' := [(5, .int (nI ((cntB (fun r => fitv k w (vlu (mk fm) (mk fw) w j r) v) i) + 1))), (0, .ref h), (1, .int k), (2, .int w), (3, .int (nI j)), (4, .int v), (6, .int (nI i))]) hx hb dX0_count_47 hl (k := 5) rfl (by exact nI_1 _) (by decide) rfl (fun ls hl => ?_)
        refine lv_iinc (v := (nI (i + 1))) (lv' := [(6, .int (nI (i + 1))), (5, .int (nI ((cntB (fun r => fitv k w (vlu (mk fm) (mk fw) w j r) v) i) + 1))), (0, .ref h), (1, .int k), (2, .int w), (3, .int (nI j)), (4, .int v)]) hx hb dX0_count_50 hl (k := 6) rfl (by exact nI_1 _) (by decide) rfl (fun ls hl => ?_)
        refine lv_goto (tgt := 22) hx hb dX0_count_53 (by decide) ?_
        exact ih_i (by exact trivial) ls (q_hl (lv_sub (l' := [(0, .ref h), (1, .int k), (2, .int w), (3, .int (nI j)), (4, .int v), (5, .int (nI ((cntB (fun r => fitv k w (vlu (mk fm) (mk fw) w j r) v) i) + 1))), (6, .int (nI (i + 1)))]) hl [2, 3, 4, 5, 6, 1, 0] rfl) (q_ck (q_ck (q_ck (q_ck (q_ck (q_ce (by simp [cntB, c_1, c_3]) (q_ck (rfl)))))))))
    · intro hI_i ls hl
      have hl : lv_has ls 7 [(0, .ref h), (1, .int k), (2, .int w), (3, .int (nI j)), (4, .int v), (5, .int (nI (cntB (fun r => fitv k w (vlu (mk fm) (mk fw) w j r) v) 6))), (6, .int (nI 6))] := hl
      refine lv_iload hx hb dX0_count_22 (lv_at hl 6 rfl) ?_
      refine lv_bipush (v := 6) hx hb dX0_count_24 (by decide) ?_
      refine lv_icmp_ge (tgt := 56) hx hb dX0_count_26 (by decide) (fun c_4 => ?_) (fun c_4 => absurd (by decide) c_4)
      refine lv_iload hx hb dX0_count_56 (lv_at hl 5 rfl) ?_
      exact q_ri hx hb hr hlk (by rw [aCount, if_pos c_1, nI_clamp (by omega)]) dX0_count_58
  · skip
    have c_1 : (qst (nI n) k w x v) = false := b2i_0 c_1
    refine lv_sipush (v := (-1000)) hx hb dX0_count_12 (by decide) ?_
    exact q_ri hx hb hr hlk (by simp [aCount, c_1]) dX0_count_15

theorem hdX0_turned : yX0_turned.cls = RX0 ∧ yX0_turned.cls ≠ "java/lang/invoke/MethodHandle" ∧ yX0_turned.cls ≠ "java/lang/invoke/VarHandle" ∧ (parseMethodDescriptor yX0_turned.desc).map (fun d => d.parameters.length) = some 4 := by decide +kernel
set_option maxHeartbeats 4000000 in
set_option maxRecDepth 100000 in
theorem mX0_turned (l : Launch) (dC : Nat → ClassId) (dI : Nat → Nat → Nat) (h qb qj qm qw qr : Nat) (cA : ClassId) (n : Nat) (rec lim : Int32) (fb fj fm fw fr : Nat → Int32) (k : Int32) (w : Int32) (x : Int32) (v : Int32) (hn : n ≤ 8) : Met l yX0_turned wsX0_turned ({ frames := 2, cells := 0, slots := 0, locals := 45 }) (va_Pc [.ref h, .int k, .int w, .int x, .int v] (fun U => va_P (dC, dI) vwCl (wX h qb qj qm qw qr cA (nI n) rec lim fb fj fm fw fr) U.heap ∧ va_K (dC, dI) vwCl [(cA, .int)] U)) (QcRead (aTurned (mk fm) (mk fw) (nI n) k w x v)) 0 0 (fun _ => False) := by
  refine Met.ofW (cc := cX0_turned) (maxL := 7) (ret := (some .int)) (by decide) rfl ?_
  intro p e s m args below meth c s₁ B hml hv
  obtain ⟨rfl, hP, hK⟩ := hv
  have hx := B.exec
  have hb := B.bytes
  have hr := B.returns
  have hts := atoms_spec (ws := wsX0_turned) B.pre
  have hown : s.vm.findClass RX0 = some m.cls := findClass_of_methodNamed B.named
  have hlk := B.notSynchronized
  have hl := lv_entry ([.ref h, .int k, .int w, .int x, .int v]) (n := 7) (Nat.le_of_ble_eq_true rfl)
  rw [lg_entry_eq]
  generalize (lg_sl ([.ref h, .int k, .int w, .int x, .int v]) ++ List.replicate (7 - (lg_sl ([.ref h, .int k, .int w, .int x, .int v])).length) Slot.unset).toArray = ls at hl ⊢
  have hl : lv_has ls 7 [(0, .ref h), (1, .int k), (2, .int w), (3, .int x), (4, .int v)] := hl
  refine lv_aload_n hx hb dX0_turned_0 rfl (lv_at hl 0 rfl) ?_
  refine lv_iload_n hx hb dX0_turned_1 rfl (lv_at hl 1 rfl) ?_
  refine lv_iload_n hx hb dX0_turned_2 rfl (lv_at hl 2 rfl) ?_
  refine lv_iload_n hx hb dX0_turned_3 rfl (lv_at hl 3 rfl) ?_
  refine lv_iload hx hb dX0_turned_4 (lv_at hl 4 rfl) ?_
  refine q_cv [.int k, .int w, .int x, .int v] (rest := []) ⟨hx, hb, hml, hown, hts⟩ (mX0_isQuestion l dC dI h qb qj qm qw qr cA n rec lim fb fj fm fw fr k w x v) gX0_turned_X0_isQuestion rfl rfl rfl hdX0_isQuestion ⟨Nat.le_of_ble_eq_true rfl, Nat.le_of_ble_eq_true rfl⟩ rfl hK hP rfl rfl hl.1 rfl (Nat.le_of_ble_eq_true rfl) dX0_turned_6 ⟨Nat.zero_le _, Nat.zero_le _⟩ ?_
  refine lv_if_ne (tgt := 16) hx hb dX0_turned_9 (by decide) (fun c_1 => ?_) (fun c_1 => ?_)
  · skip
    have c_1 : (qst (nI n) k w x v) = true := b2i_n c_1
    obtain ⟨j, hj, rfl⟩ := jmp_of (qst_j c_1) hn
    refine lv_iconst (v := 0) hx hb dX0_turned_16 (by decide) ?_
    refine lv_istore (lv' := [(5, .int 0), (0, .ref h), (1, .int k), (2, .int w), (3, .int (nI j)), (4, .int v)]) hx hb dX0_turned_17 hl (by decide) rfl (fun ls hl => ?_)
    refine lv_iconst (v := 0) hx hb dX0_turned_19 (by decide) ?_
    refine lv_istore (lv' := [(6, .int 0), (5, .int 0), (0, .ref h), (1, .int k), (2, .int w), (3, .int (nI j)), (4, .int v)]) hx hb dX0_turned_20 hl (by decide) rfl (fun ls hl => ?_)
    refine q_lp (head := 22) (6) (fun i => [(0, .ref h), (1, .int k), (2, .int w), (3, .int (nI j)), (4, .int v), (5, .int (nI (cntB (fun r => fitv k w v (vlu (mk fm) (mk fw) w j r)) i))), (6, .int (nI i))]) (fun i => True) (0) (by omega) (trivial) (q_hl (lv_sub (l' := [(0, .ref h), (1, .int k), (2, .int w), (3, .int (nI j)), (4, .int v), (5, .int 0), (6, .int 0)]) hl [2, 3, 4, 5, 6, 1, 0] rfl) (q_ck (q_ck (q_ck (q_ck (q_ck (q_ce (by rfl) (q_ce (by rfl) (rfl))))))))) ?_ ?_
    · intro i hi_i hI_i ih_i ls hl
      have hl : lv_has ls 7 [(0, .ref h), (1, .int k), (2, .int w), (3, .int (nI j)), (4, .int v), (5, .int (nI (cntB (fun r => fitv k w v (vlu (mk fm) (mk fw) w j r)) i))), (6, .int (nI i))] := hl
      refine lv_iload hx hb dX0_turned_22 (lv_at hl 6 rfl) ?_
      refine lv_bipush (v := 6) hx hb dX0_turned_24 (by decide) ?_
      refine lv_icmp_ge (tgt := 56) hx hb dX0_turned_26 (by decide) (fun c_2 => absurd c_2 (nI_ge (b := 6) hi_i (by decide))) (fun c_2 => ?_)
      refine lv_iload_n hx hb dX0_turned_29 rfl (lv_at hl 1 rfl) ?_
      refine lv_iload_n hx hb dX0_turned_30 rfl (lv_at hl 2 rfl) ?_
      refine lv_iload hx hb dX0_turned_31 (lv_at hl 4 rfl) ?_
      refine lv_aload_n hx hb dX0_turned_33 rfl (lv_at hl 0 rfl) ?_
      refine lv_iload_n hx hb dX0_turned_34 rfl (lv_at hl 2 rfl) ?_
      refine lv_iload_n hx hb dX0_turned_35 rfl (lv_at hl 3 rfl) ?_
      refine lv_iload hx hb dX0_turned_36 (lv_at hl 6 rfl) ?_
      refine q_cv [.int w, .int (nI j), .int (nI i)] (rest := [.int v, .int w, .int k]) ⟨hx, hb, hml, hown, hts⟩ (mX0_valueOf l dC dI h qb qj qm qw qr cA n rec lim fb fj fm fw fr w j i (by omega) (by omega)) gX0_turned_X0_valueOf rfl rfl rfl hdX0_valueOf ⟨Nat.le_of_ble_eq_true rfl, Nat.le_of_ble_eq_true rfl⟩ rfl hK hP rfl rfl hl.1 rfl (Nat.le_of_ble_eq_true rfl) dX0_turned_38 ⟨Nat.zero_le _, Nat.zero_le _⟩ ?_
      refine q_cs [.int k, .int w, .int v, .int (vlu (mk fm) (mk fw) w j i)] (rest := []) ⟨hx, hb, hml, hown, hts⟩ (mX0_valueFits l k w v (vlu (mk fm) (mk fw) w j i)) gX0_turned_X0_valueFits rfl rfl rfl hdX0_valueFits ⟨Nat.le_of_ble_eq_true rfl, Nat.le_of_ble_eq_true rfl⟩ rfl hl.1 rfl (Nat.le_of_ble_eq_true rfl) dX0_turned_41 ⟨Nat.zero_le _, Nat.zero_le _⟩ ?_
      refine lv_if_eq (tgt := 50) hx hb dX0_turned_44 (by decide) (fun c_3 => ?_) (fun c_3 => ?_)
      · skip
        have c_3 : (fitv k w v (vlu (mk fm) (mk fw) w j i)) = false := b2i_0 c_3
        refine lv_iinc (v := (nI (i + 1))) (lv' := [(6, .int (nI (i + 1))), (0, .ref h), (1, .int k), (2, .int w), (3, .int (nI j)), (4, .int v), (5, .int (nI (cntB (fun r => fitv k w v (vlu (mk fm) (mk fw) w j r)) i)))]) hx hb dX0_turned_50 hl (k := 6) rfl (by exact nI_1 _) (by decide) rfl (fun ls hl => ?_)
        refine lv_goto (tgt := 22) hx hb dX0_turned_53 (by decide) ?_
        exact ih_i (by exact trivial) ls (q_hl (lv_sub (l' := [(0, .ref h), (1, .int k), (2, .int w), (3, .int (nI j)), (4, .int v), (5, .int (nI (cntB (fun r => fitv k w v (vlu (mk fm) (mk fw) w j r)) i))), (6, .int (nI (i + 1)))]) hl [1, 2, 3, 4, 5, 6, 0] rfl) (q_ck (q_ck (q_ck (q_ck (q_ck (q_ce (by simp [cntB, c_1, c_3]) (q_ck (rfl)))))))))
      · skip
        have c_3 : (fitv k w v (vlu (mk fm) (mk fw) w j i)) = true := b2i_n c_3
        refine lv_iinc (v := (nI ((cntB (fun r => fitv k w v (vlu (mk fm) (mk fw) w j r)) i) + 1))) (lv' := [(5, .int (nI ((cntB (fun r => fitv k w v (vlu (mk fm) (mk fw) w j r)) i) + 1))), (0, .ref h), (1, .int k), (2, .int w), (3, .int (nI j)), (4, .int v), (6, .int (nI i))]) hx hb dX0_turned_47 hl (k := 5) rfl (by exact nI_1 _) (by decide) rfl (fun ls hl => ?_)
        refine lv_iinc (v := (nI (i + 1))) (lv' := [(6, .int (nI (i + 1))), (5, .int (nI ((cntB (fun r => fitv k w v (vlu (mk fm) (mk fw) w j r)) i) + 1))), (0, .ref h), (1, .int k), (2, .int w), (3, .int (nI j)), (4, .int v)]) hx hb dX0_turned_50 hl (k := 6) rfl (by exact nI_1 _) (by decide) rfl (fun ls hl => ?_)
        refine lv_goto (tgt := 22) hx hb dX0_turned_53 (by decide) ?_
        exact ih_i (by exact trivial) ls (q_hl (lv_sub (l' := [(0, .ref h), (1, .int k), (2, .int w), (3, .int (nI j)), (4, .int v), (5, .int (nI ((cntB (fun r => fitv k w v (vlu (mk fm) (mk fw) w j r)) i) + 1))), (6, .int (nI (i + 1)))]) hl [2, 3, 4, 5, 6, 1, 0] rfl) (q_ck (q_ck (q_ck (q_ck (q_ck (q_ce (by simp [cntB, c_1, c_3]) (q_ck (rfl)))))))))
    · intro hI_i ls hl
      have hl : lv_has ls 7 [(0, .ref h), (1, .int k), (2, .int w), (3, .int (nI j)), (4, .int v), (5, .int (nI (cntB (fun r => fitv k w v (vlu (mk fm) (mk fw) w j r)) 6))), (6, .int (nI 6))] := hl
      refine lv_iload hx hb dX0_turned_22 (lv_at hl 6 rfl) ?_
      refine lv_bipush (v := 6) hx hb dX0_turned_24 (by decide) ?_
      refine lv_icmp_ge (tgt := 56) hx hb dX0_turned_26 (by decide) (fun c_4 => ?_) (fun c_4 => absurd (by decide) c_4)
      refine lv_iload hx hb dX0_turned_56 (lv_at hl 5 rfl) ?_
      exact q_ri hx hb hr hlk (by rw [aTurned, if_pos c_1, nI_clamp (by omega)]) dX0_turned_58
  · skip
    have c_1 : (qst (nI n) k w x v) = false := b2i_0 c_1
    refine lv_sipush (v := (-1000)) hx hb dX0_turned_12 (by decide) ?_
    exact q_ri hx hb hr hlk (by simp [aTurned, c_1]) dX0_turned_15

theorem hdX0_longest : yX0_longest.cls = RX0 ∧ yX0_longest.cls ≠ "java/lang/invoke/MethodHandle" ∧ yX0_longest.cls ≠ "java/lang/invoke/VarHandle" ∧ (parseMethodDescriptor yX0_longest.desc).map (fun d => d.parameters.length) = some 4 := by decide +kernel
set_option maxHeartbeats 4000000 in
set_option maxRecDepth 100000 in
theorem mX0_longest (l : Launch) (dC : Nat → ClassId) (dI : Nat → Nat → Nat) (h qb qj qm qw qr : Nat) (cA : ClassId) (n : Nat) (rec lim : Int32) (fb fj fm fw fr : Nat → Int32) (k : Int32) (w : Int32) (x : Int32) (v : Int32) (hn : n ≤ 8) : Met l yX0_longest wsX0_longest ({ frames := 2, cells := 0, slots := 0, locals := 45 }) (va_Pc [.ref h, .int k, .int w, .int x, .int v] (fun U => va_P (dC, dI) vwCl (wX h qb qj qm qw qr cA (nI n) rec lim fb fj fm fw fr) U.heap ∧ va_K (dC, dI) vwCl [(cA, .int)] U)) (QcRead (aLongest (mk fm) (mk fw) (nI n) k w x v)) 0 0 (fun _ => False) := by
  refine Met.ofW (cc := cX0_longest) (maxL := 8) (ret := (some .int)) (by decide) rfl ?_
  intro p e s m args below meth c s₁ B hml hv
  obtain ⟨rfl, hP, hK⟩ := hv
  have hx := B.exec
  have hb := B.bytes
  have hr := B.returns
  have hts := atoms_spec (ws := wsX0_longest) B.pre
  have hown : s.vm.findClass RX0 = some m.cls := findClass_of_methodNamed B.named
  have hlk := B.notSynchronized
  have hl := lv_entry ([.ref h, .int k, .int w, .int x, .int v]) (n := 8) (Nat.le_of_ble_eq_true rfl)
  rw [lg_entry_eq]
  generalize (lg_sl ([.ref h, .int k, .int w, .int x, .int v]) ++ List.replicate (8 - (lg_sl ([.ref h, .int k, .int w, .int x, .int v])).length) Slot.unset).toArray = ls at hl ⊢
  have hl : lv_has ls 8 [(0, .ref h), (1, .int k), (2, .int w), (3, .int x), (4, .int v)] := hl
  refine lv_aload_n hx hb dX0_longest_0 rfl (lv_at hl 0 rfl) ?_
  refine lv_iload_n hx hb dX0_longest_1 rfl (lv_at hl 1 rfl) ?_
  refine lv_iload_n hx hb dX0_longest_2 rfl (lv_at hl 2 rfl) ?_
  refine lv_iload_n hx hb dX0_longest_3 rfl (lv_at hl 3 rfl) ?_
  refine lv_iload hx hb dX0_longest_4 (lv_at hl 4 rfl) ?_
  refine q_cv [.int k, .int w, .int x, .int v] (rest := []) ⟨hx, hb, hml, hown, hts⟩ (mX0_isQuestion l dC dI h qb qj qm qw qr cA n rec lim fb fj fm fw fr k w x v) gX0_longest_X0_isQuestion rfl rfl rfl hdX0_isQuestion ⟨Nat.le_of_ble_eq_true rfl, Nat.le_of_ble_eq_true rfl⟩ rfl hK hP rfl rfl hl.1 rfl (Nat.le_of_ble_eq_true rfl) dX0_longest_6 ⟨Nat.zero_le _, Nat.zero_le _⟩ ?_
  refine lv_if_ne (tgt := 16) hx hb dX0_longest_9 (by decide) (fun c_1 => ?_) (fun c_1 => ?_)
  · skip
    have c_1 : (qst (nI n) k w x v) = true := b2i_n c_1
    obtain ⟨j, hj, rfl⟩ := jmp_of (qst_j c_1) hn
    refine lv_iconst (v := 0) hx hb dX0_longest_16 (by decide) ?_
    refine lv_istore (lv' := [(5, .int 0), (0, .ref h), (1, .int k), (2, .int w), (3, .int (nI j)), (4, .int v)]) hx hb dX0_longest_17 hl (by decide) rfl (fun ls hl => ?_)
    refine lv_iconst (v := 0) hx hb dX0_longest_19 (by decide) ?_
    refine lv_istore (lv' := [(6, .int 0), (5, .int 0), (0, .ref h), (1, .int k), (2, .int w), (3, .int (nI j)), (4, .int v)]) hx hb dX0_longest_20 hl (by decide) rfl (fun ls hl => ?_)
    refine lv_iconst (v := 0) hx hb dX0_longest_22 (by decide) ?_
    refine lv_istore (lv' := [(7, .int 0), (6, .int 0), (5, .int 0), (0, .ref h), (1, .int k), (2, .int w), (3, .int (nI j)), (4, .int v)]) hx hb dX0_longest_23 hl (by decide) rfl (fun ls hl => ?_)
    refine q_lp (head := 25) (6) (fun i => [(0, .ref h), (1, .int k), (2, .int w), (3, .int (nI j)), (4, .int v), (5, .int (nI (mostB (fun r => fitv k w (vlu (mk fm) (mk fw) w j r) v) i))), (6, .int (nI (lenB (fun r => fitv k w (vlu (mk fm) (mk fw) w j r) v) i))), (7, .int (nI i))]) (fun i => True) (0) (by omega) (trivial) (q_hl (lv_sub (l' := [(0, .ref h), (1, .int k), (2, .int w), (3, .int (nI j)), (4, .int v), (5, .int 0), (6, .int 0), (7, .int 0)]) hl [3, 4, 5, 6, 7, 2, 1, 0] rfl) (q_ck (q_ck (q_ck (q_ck (q_ck (q_ce (by rfl) (q_ce (by rfl) (q_ce (by rfl) (rfl)))))))))) ?_ ?_
    · intro i hi_i hI_i ih_i ls hl
      have hl : lv_has ls 8 [(0, .ref h), (1, .int k), (2, .int w), (3, .int (nI j)), (4, .int v), (5, .int (nI (mostB (fun r => fitv k w (vlu (mk fm) (mk fw) w j r) v) i))), (6, .int (nI (lenB (fun r => fitv k w (vlu (mk fm) (mk fw) w j r) v) i))), (7, .int (nI i))] := hl
      refine lv_iload hx hb dX0_longest_25 (lv_at hl 7 rfl) ?_
      refine lv_bipush (v := 6) hx hb dX0_longest_27 (by decide) ?_
      refine lv_icmp_ge (tgt := 75) hx hb dX0_longest_29 (by decide) (fun c_2 => absurd c_2 (nI_ge (b := 6) hi_i (by decide))) (fun c_2 => ?_)
      refine lv_iload_n hx hb dX0_longest_32 rfl (lv_at hl 1 rfl) ?_
      refine lv_iload_n hx hb dX0_longest_33 rfl (lv_at hl 2 rfl) ?_
      refine lv_aload_n hx hb dX0_longest_34 rfl (lv_at hl 0 rfl) ?_
      refine lv_iload_n hx hb dX0_longest_35 rfl (lv_at hl 2 rfl) ?_
      refine lv_iload_n hx hb dX0_longest_36 rfl (lv_at hl 3 rfl) ?_
      refine lv_iload hx hb dX0_longest_37 (lv_at hl 7 rfl) ?_
      refine q_cv [.int w, .int (nI j), .int (nI i)] (rest := [.int w, .int k]) ⟨hx, hb, hml, hown, hts⟩ (mX0_valueOf l dC dI h qb qj qm qw qr cA n rec lim fb fj fm fw fr w j i (by omega) (by omega)) gX0_longest_X0_valueOf rfl rfl rfl hdX0_valueOf ⟨Nat.le_of_ble_eq_true rfl, Nat.le_of_ble_eq_true rfl⟩ rfl hK hP rfl rfl hl.1 rfl (Nat.le_of_ble_eq_true rfl) dX0_longest_39 ⟨Nat.zero_le _, Nat.zero_le _⟩ ?_
      refine lv_iload hx hb dX0_longest_42 (lv_at hl 4 rfl) ?_
      refine q_cs [.int k, .int w, .int (vlu (mk fm) (mk fw) w j i), .int v] (rest := []) ⟨hx, hb, hml, hown, hts⟩ (mX0_valueFits l k w (vlu (mk fm) (mk fw) w j i) v) gX0_longest_X0_valueFits rfl rfl rfl hdX0_valueFits ⟨Nat.le_of_ble_eq_true rfl, Nat.le_of_ble_eq_true rfl⟩ rfl hl.1 rfl (Nat.le_of_ble_eq_true rfl) dX0_longest_44 ⟨Nat.zero_le _, Nat.zero_le _⟩ ?_
      refine lv_if_eq (tgt := 54) hx hb dX0_longest_47 (by decide) (fun c_3 => ?_) (fun c_3 => ?_)
      · skip
        have c_3 : (fitv k w (vlu (mk fm) (mk fw) w j i) v) = false := b2i_0 c_3
        refine lv_iload hx hb dX0_longest_54 (lv_at hl 6 rfl) ?_
        refine lv_iconst (v := 1) hx hb dX0_longest_56 (by decide) ?_
        refine lv_iadd hx hb dX0_longest_57 ?_
        refine q_top (y := nI (lenB (fun r => fitv k w (vlu (mk fm) (mk fw) w j r) v) (i + 1))) (by simp [lenB, c_1, c_3, nI_1]) ?_
        refine lv_istore (lv' := [(6, .int (nI (lenB (fun r => fitv k w (vlu (mk fm) (mk fw) w j r) v) (i + 1)))), (0, .ref h), (1, .int k), (2, .int w), (3, .int (nI j)), (4, .int v), (5, .int (nI (mostB (fun r => fitv k w (vlu (mk fm) (mk fw) w j r) v) i))), (7, .int (nI i))]) hx hb dX0_longest_58 hl (by decide) rfl (fun ls hl => ?_)
        refine lv_iload hx hb dX0_longest_60 (lv_at hl 6 rfl) ?_
        refine lv_iload hx hb dX0_longest_62 (lv_at hl 0 rfl) ?_
        refine va_mmax (rest := []) hx hb (hml.trans hl.1.symm) hown (hts (.methodLink RX0 72 Lib.Math.max.name) (by decide +kernel)) (hts (.static Lib.Math.max.name) (by decide +kernel)) (hts (.initialized "java/lang/Math") (by decide +kernel)) (hts (.code Lib.Math.max.name Lib.Math.max.code 2 (some .int)) (by decide +kernel)) (Nat.le_of_ble_eq_true rfl) (Nat.le_of_ble_eq_true rfl) (Nat.zero_le _) (Nat.zero_le _) dX0_longest_64 ?_
        refine q_top (y := nI (mostB (fun r => fitv k w (vlu (mk fm) (mk fw) w j r) v) (i + 1))) (by exact mostB_nI hi_i) ?_
        refine lv_istore (lv' := [(5, .int (nI (mostB (fun r => fitv k w (vlu (mk fm) (mk fw) w j r) v) (i + 1)))), (6, .int (nI (lenB (fun r => fitv k w (vlu (mk fm) (mk fw) w j r) v) (i + 1)))), (0, .ref h), (1, .int k), (2, .int w), (3, .int (nI j)), (4, .int v), (7, .int (nI i))]) hx hb dX0_longest_67 hl (by decide) rfl (fun ls hl => ?_)
        refine lv_iinc (v := (nI (i + 1))) (lv' := [(7, .int (nI (i + 1))), (5, .int (nI (mostB (fun r => fitv k w (vlu (mk fm) (mk fw) w j r) v) (i + 1)))), (6, .int (nI (lenB (fun r => fitv k w (vlu (mk fm) (mk fw) w j r) v) (i + 1)))), (0, .ref h), (1, .int k), (2, .int w), (3, .int (nI j)), (4, .int v)]) hx hb dX0_longest_69 hl (k := 7) rfl (by exact nI_1 _) (by decide) rfl (fun ls hl => ?_)
        refine lv_goto (tgt := 25) hx hb dX0_longest_72 (by decide) ?_
        exact ih_i (by exact trivial) ls (lv_sub (l' := [(0, .ref h), (1, .int k), (2, .int w), (3, .int (nI j)), (4, .int v), (5, .int (nI (mostB (fun r => fitv k w (vlu (mk fm) (mk fw) w j r) v) (i + 1)))), (6, .int (nI (lenB (fun r => fitv k w (vlu (mk fm) (mk fw) w j r) v) (i + 1)))), (7, .int (nI (i + 1)))]) hl [3, 4, 5, 6, 7, 1, 2, 0] rfl)
      · skip
        have c_3 : (fitv k w (vlu (mk fm) (mk fw) w j i) v) = true := b2i_n c_3
        refine lv_iconst (v := 0) hx hb dX0_longest_50 (by decide) ?_
        refine q_top (y := nI (lenB (fun r => fitv k w (vlu (mk fm) (mk fw) w j r) v) (i + 1))) (by simp [lenB, c_1, c_3]; rfl) ?_
        refine lv_goto (tgt := 58) hx hb dX0_longest_51 (by decide) ?_
        refine lv_istore (lv' := [(6, .int (nI (lenB (fun r => fitv k w (vlu (mk fm) (mk fw) w j r) v) (i + 1)))), (0, .ref h), (1, .int k), (2, .int w), (3, .int (nI j)), (4, .int v), (5, .int (nI (mostB (fun r => fitv k w (vlu (mk fm) (mk fw) w j r) v) i))), (7, .int (nI i))]) hx hb dX0_longest_58 hl (by decide) rfl (fun ls hl => ?_)
        refine lv_iload hx hb dX0_longest_60 (lv_at hl 6 rfl) ?_
        refine lv_iload hx hb dX0_longest_62 (lv_at hl 0 rfl) ?_
        refine va_mmax (rest := []) hx hb (hml.trans hl.1.symm) hown (hts (.methodLink RX0 72 Lib.Math.max.name) (by decide +kernel)) (hts (.static Lib.Math.max.name) (by decide +kernel)) (hts (.initialized "java/lang/Math") (by decide +kernel)) (hts (.code Lib.Math.max.name Lib.Math.max.code 2 (some .int)) (by decide +kernel)) (Nat.le_of_ble_eq_true rfl) (Nat.le_of_ble_eq_true rfl) (Nat.zero_le _) (Nat.zero_le _) dX0_longest_64 ?_
        refine q_top (y := nI (mostB (fun r => fitv k w (vlu (mk fm) (mk fw) w j r) v) (i + 1))) (by exact mostB_nI hi_i) ?_
        refine lv_istore (lv' := [(5, .int (nI (mostB (fun r => fitv k w (vlu (mk fm) (mk fw) w j r) v) (i + 1)))), (6, .int (nI (lenB (fun r => fitv k w (vlu (mk fm) (mk fw) w j r) v) (i + 1)))), (0, .ref h), (1, .int k), (2, .int w), (3, .int (nI j)), (4, .int v), (7, .int (nI i))]) hx hb dX0_longest_67 hl (by decide) rfl (fun ls hl => ?_)
        refine lv_iinc (v := (nI (i + 1))) (lv' := [(7, .int (nI (i + 1))), (5, .int (nI (mostB (fun r => fitv k w (vlu (mk fm) (mk fw) w j r) v) (i + 1)))), (6, .int (nI (lenB (fun r => fitv k w (vlu (mk fm) (mk fw) w j r) v) (i + 1)))), (0, .ref h), (1, .int k), (2, .int w), (3, .int (nI j)), (4, .int v)]) hx hb dX0_longest_69 hl (k := 7) rfl (by exact nI_1 _) (by decide) rfl (fun ls hl => ?_)
        refine lv_goto (tgt := 25) hx hb dX0_longest_72 (by decide) ?_
        exact ih_i (by exact trivial) ls (lv_sub (l' := [(0, .ref h), (1, .int k), (2, .int w), (3, .int (nI j)), (4, .int v), (5, .int (nI (mostB (fun r => fitv k w (vlu (mk fm) (mk fw) w j r) v) (i + 1)))), (6, .int (nI (lenB (fun r => fitv k w (vlu (mk fm) (mk fw) w j r) v) (i + 1)))), (7, .int (nI (i + 1)))]) hl [3, 4, 5, 6, 7, 1, 2, 0] rfl)
    · intro hI_i ls hl
      have hl : lv_has ls 8 [(0, .ref h), (1, .int k), (2, .int w), (3, .int (nI j)), (4, .int v), (5, .int (nI (mostB (fun r => fitv k w (vlu (mk fm) (mk fw) w j r) v) 6))), (6, .int (nI (lenB (fun r => fitv k w (vlu (mk fm) (mk fw) w j r) v) 6))), (7, .int (nI 6))] := hl
      refine lv_iload hx hb dX0_longest_25 (lv_at hl 7 rfl) ?_
      refine lv_bipush (v := 6) hx hb dX0_longest_27 (by decide) ?_
      refine lv_icmp_ge (tgt := 75) hx hb dX0_longest_29 (by decide) (fun c_4 => ?_) (fun c_4 => absurd (by decide) c_4)
      refine lv_iload hx hb dX0_longest_75 (lv_at hl 5 rfl) ?_
      exact q_ri hx hb hr hlk (by rw [aLongest, if_pos c_1, nI_clamp (by omega)]) dX0_longest_77
  · skip
    have c_1 : (qst (nI n) k w x v) = false := b2i_0 c_1
    refine lv_sipush (v := (-1000)) hx hb dX0_longest_12 (by decide) ?_
    exact q_ri hx hb hr hlk (by simp [aLongest, c_1]) dX0_longest_15

theorem hdX0_skip : yX0_skip.cls = RX0 ∧ yX0_skip.cls ≠ "java/lang/invoke/MethodHandle" ∧ yX0_skip.cls ≠ "java/lang/invoke/VarHandle" ∧ (parseMethodDescriptor yX0_skip.desc).map (fun d => d.parameters.length) = some 5 := by decide +kernel
set_option maxHeartbeats 4000000 in
set_option maxRecDepth 100000 in
theorem mX0_skip (l : Launch) (dC : Nat → ClassId) (dI : Nat → Nat → Nat) (h qb qj qm qw qr : Nat) (cA : ClassId) (n : Nat) (rec lim : Int32) (fb fj fm fw fr : Nat → Int32) (k : Int32) (w : Int32) (x : Int32) (f : Int32) (v : Int32) (hn : n ≤ 8) : Met l yX0_skip wsX0_skip ({ frames := 2, cells := 0, slots := 0, locals := 45 }) (va_Pc [.ref h, .int k, .int w, .int x, .int f, .int v] (fun U => va_P (dC, dI) vwCl (wX h qb qj qm qw qr cA (nI n) rec lim fb fj fm fw fr) U.heap ∧ va_K (dC, dI) vwCl [(cA, .int)] U)) (QcRead (aSkip (mk fm) (mk fw) (nI n) k w x f v)) 0 0 (fun _ => False) := by
  refine Met.ofW (cc := cX0_skip) (maxL := 7) (ret := (some .int)) (by decide) rfl ?_
  intro p e s m args below meth c s₁ B hml hv
  obtain ⟨rfl, hP, hK⟩ := hv
  have hx := B.exec
  have hb := B.bytes
  have hr := B.returns
  have hts := atoms_spec (ws := wsX0_skip) B.pre
  have hown : s.vm.findClass RX0 = some m.cls := findClass_of_methodNamed B.named
  have hlk := B.notSynchronized
  have hl := lv_entry ([.ref h, .int k, .int w, .int x, .int f, .int v]) (n := 7) (Nat.le_of_ble_eq_true rfl)
  rw [lg_entry_eq]
  generalize (lg_sl ([.ref h, .int k, .int w, .int x, .int f, .int v]) ++ List.replicate (7 - (lg_sl ([.ref h, .int k, .int w, .int x, .int f, .int v])).length) Slot.unset).toArray = ls at hl ⊢
  have hl : lv_has ls 7 [(0, .ref h), (1, .int k), (2, .int w), (3, .int x), (4, .int f), (5, .int v)] := hl
  refine lv_aload_n hx hb dX0_skip_0 rfl (lv_at hl 0 rfl) ?_
  refine lv_iload_n hx hb dX0_skip_1 rfl (lv_at hl 1 rfl) ?_
  refine lv_iload_n hx hb dX0_skip_2 rfl (lv_at hl 2 rfl) ?_
  refine lv_iload_n hx hb dX0_skip_3 rfl (lv_at hl 3 rfl) ?_
  refine lv_iload hx hb dX0_skip_4 (lv_at hl 5 rfl) ?_
  refine q_cv [.int k, .int w, .int x, .int v] (rest := []) ⟨hx, hb, hml, hown, hts⟩ (mX0_isQuestion l dC dI h qb qj qm qw qr cA n rec lim fb fj fm fw fr k w x v) gX0_skip_X0_isQuestion rfl rfl rfl hdX0_isQuestion ⟨Nat.le_of_ble_eq_true rfl, Nat.le_of_ble_eq_true rfl⟩ rfl hK hP rfl rfl hl.1 rfl (Nat.le_of_ble_eq_true rfl) dX0_skip_6 ⟨Nat.zero_le _, Nat.zero_le _⟩ ?_
  refine lv_if_eq (tgt := 20) hx hb dX0_skip_9 (by decide) (fun c_1 => ?_) (fun c_1 => ?_)
  · skip
    have c_1 : (qst (nI n) k w x v) = false := b2i_0 c_1
    refine lv_sipush (v := (-1000)) hx hb dX0_skip_20 (by decide) ?_
    exact q_ri hx hb hr hlk (by simp [aSkip, c_1]) dX0_skip_23
  · skip
    have c_1 : (qst (nI n) k w x v) = true := b2i_n c_1
    refine lv_iload hx hb dX0_skip_12 (lv_at hl 4 rfl) ?_
    refine q_cs [.int f] (rest := []) ⟨hx, hb, hml, hown, hts⟩ (mX0_isRound l f) gX0_skip_X0_isRound rfl rfl rfl hdX0_isRound ⟨Nat.le_of_ble_eq_true rfl, Nat.le_of_ble_eq_true rfl⟩ rfl hl.1 rfl (Nat.le_of_ble_eq_true rfl) dX0_skip_14 ⟨Nat.zero_le _, Nat.zero_le _⟩ ?_
    refine lv_if_ne (tgt := 24) hx hb dX0_skip_17 (by decide) (fun c_2 => ?_) (fun c_2 => ?_)
    · skip
      have c_2 : (rnd f) = true := b2i_n c_2
      obtain ⟨j, hj, rfl⟩ := jmp_of (qst_j c_1) hn
      obtain ⟨f6, hf6, rfl⟩ := rnd_of c_2
      refine lv_iload hx hb dX0_skip_24 (lv_at hl 4 rfl) ?_
      refine lv_istore (lv' := [(6, .int (nI f6)), (0, .ref h), (1, .int k), (2, .int w), (3, .int (nI j)), (4, .int (nI f6)), (5, .int v)]) hx hb dX0_skip_26 hl (by decide) rfl (fun ls hl => ?_)
      refine q_lp (head := 28) (6) (fun i => [(0, .ref h), (1, .int k), (2, .int w), (3, .int (nI j)), (4, .int (nI f6)), (5, .int v), (6, .int (nI i))]) (fun i => skpF (fun r => fitv k w (vlu (mk fm) (mk fw) w j r) v) (6 - f6) f6 = skpF (fun r => fitv k w (vlu (mk fm) (mk fw) w j r) v) (6 - i) i) (f6) (by omega) (rfl) (lv_sub (l' := [(0, .ref h), (1, .int k), (2, .int w), (3, .int (nI j)), (4, .int (nI f6)), (5, .int v), (6, .int (nI f6))]) hl [1, 2, 3, 4, 5, 6, 0] rfl) ?_ ?_
      · intro i hi_i hI_i ih_i ls hl
        have hl : lv_has ls 7 [(0, .ref h), (1, .int k), (2, .int w), (3, .int (nI j)), (4, .int (nI f6)), (5, .int v), (6, .int (nI i))] := hl
        refine lv_iload hx hb dX0_skip_28 (lv_at hl 6 rfl) ?_
        refine lv_bipush (v := 6) hx hb dX0_skip_30 (by decide) ?_
        refine lv_icmp_ge (tgt := 62) hx hb dX0_skip_32 (by decide) (fun c_3 => absurd c_3 (nI_ge (b := 6) hi_i (by decide))) (fun c_3 => ?_)
        refine lv_iload_n hx hb dX0_skip_35 rfl (lv_at hl 1 rfl) ?_
        refine lv_iload_n hx hb dX0_skip_36 rfl (lv_at hl 2 rfl) ?_
        refine lv_aload_n hx hb dX0_skip_37 rfl (lv_at hl 0 rfl) ?_
        refine lv_iload_n hx hb dX0_skip_38 rfl (lv_at hl 2 rfl) ?_
        refine lv_iload_n hx hb dX0_skip_39 rfl (lv_at hl 3 rfl) ?_
        refine lv_iload hx hb dX0_skip_40 (lv_at hl 6 rfl) ?_
        refine q_cv [.int w, .int (nI j), .int (nI i)] (rest := [.int w, .int k]) ⟨hx, hb, hml, hown, hts⟩ (mX0_valueOf l dC dI h qb qj qm qw qr cA n rec lim fb fj fm fw fr w j i (by omega) (by omega)) gX0_skip_X0_valueOf rfl rfl rfl hdX0_valueOf ⟨Nat.le_of_ble_eq_true rfl, Nat.le_of_ble_eq_true rfl⟩ rfl hK hP rfl rfl hl.1 rfl (Nat.le_of_ble_eq_true rfl) dX0_skip_42 ⟨Nat.zero_le _, Nat.zero_le _⟩ ?_
        refine lv_iload hx hb dX0_skip_45 (lv_at hl 5 rfl) ?_
        refine q_cs [.int k, .int w, .int (vlu (mk fm) (mk fw) w j i), .int v] (rest := []) ⟨hx, hb, hml, hown, hts⟩ (mX0_valueFits l k w (vlu (mk fm) (mk fw) w j i) v) gX0_skip_X0_valueFits rfl rfl rfl hdX0_valueFits ⟨Nat.le_of_ble_eq_true rfl, Nat.le_of_ble_eq_true rfl⟩ rfl hl.1 rfl (Nat.le_of_ble_eq_true rfl) dX0_skip_47 ⟨Nat.zero_le _, Nat.zero_le _⟩ ?_
        refine lv_if_ne (tgt := 56) hx hb dX0_skip_50 (by decide) (fun c_4 => ?_) (fun c_4 => ?_)
        · skip
          have c_4 : (fitv k w (vlu (mk fm) (mk fw) w j i) v) = true := b2i_n c_4
          refine lv_iinc (v := (nI (i + 1))) (lv' := [(6, .int (nI (i + 1))), (0, .ref h), (1, .int k), (2, .int w), (3, .int (nI j)), (4, .int (nI f6)), (5, .int v)]) hx hb dX0_skip_56 hl (k := 6) rfl (by exact nI_1 _) (by decide) rfl (fun ls hl => ?_)
          refine lv_goto (tgt := 28) hx hb dX0_skip_59 (by decide) ?_
          exact ih_i (by rw [hI_i, skpF_eq hi_i]; simp [c_1, c_2, c_4]) ls (lv_sub (l' := [(0, .ref h), (1, .int k), (2, .int w), (3, .int (nI j)), (4, .int (nI f6)), (5, .int v), (6, .int (nI (i + 1)))]) hl [1, 2, 3, 4, 5, 6, 0] rfl)
        · skip
          have c_4 : (fitv k w (vlu (mk fm) (mk fw) w j i) v) = false := b2i_0 c_4
          refine lv_iload hx hb dX0_skip_53 (lv_at hl 6 rfl) ?_
          exact q_ri hx hb hr hlk (by rw [aSkip, if_pos (by simp [c_1, c_2]), nI_clamp (by omega), nI_clamp (by omega), hI_i, skpF_eq hi_i]; simp [c_1, c_2, c_4]) dX0_skip_55
      · intro hI_i ls hl
        have hl : lv_has ls 7 [(0, .ref h), (1, .int k), (2, .int w), (3, .int (nI j)), (4, .int (nI f6)), (5, .int v), (6, .int (nI 6))] := hl
        refine lv_iload hx hb dX0_skip_28 (lv_at hl 6 rfl) ?_
        refine lv_bipush (v := 6) hx hb dX0_skip_30 (by decide) ?_
        refine lv_icmp_ge (tgt := 62) hx hb dX0_skip_32 (by decide) (fun c_5 => ?_) (fun c_5 => absurd (by decide) c_5)
        refine lv_bipush (v := 6) hx hb dX0_skip_62 (by decide) ?_
        exact q_ri hx hb hr hlk (by rw [aSkip, if_pos (by simp [c_1, c_2]), nI_clamp (by omega), nI_clamp (by omega), hI_i]; rfl) dX0_skip_64
    · skip
      have c_2 : (rnd f) = false := b2i_0 c_2
      refine lv_sipush (v := (-1000)) hx hb dX0_skip_20 (by decide) ?_
      exact q_ri hx hb hr hlk (by simp [aSkip, c_1, c_2]) dX0_skip_23

theorem hdX0_pick : yX0_pick.cls = RX0 ∧ yX0_pick.cls ≠ "java/lang/invoke/MethodHandle" ∧ yX0_pick.cls ≠ "java/lang/invoke/VarHandle" ∧ (parseMethodDescriptor yX0_pick.desc).map (fun d => d.parameters.length) = some 4 := by decide +kernel
set_option maxHeartbeats 4000000 in
set_option maxRecDepth 100000 in
theorem mX0_pick (l : Launch) (dC : Nat → ClassId) (dI : Nat → Nat → Nat) (h qb qj qm qw qr : Nat) (cA : ClassId) (n : Nat) (rec lim : Int32) (fb fj fm fw fr : Nat → Int32) (k : Int32) (w : Int32) (x : Int32) (v : Int32) (hn : n ≤ 8) : Met l yX0_pick wsX0_pick ({ frames := 2, cells := 0, slots := 0, locals := 45 }) (va_Pc [.ref h, .int k, .int w, .int x, .int v] (fun U => va_P (dC, dI) vwCl (wX h qb qj qm qw qr cA (nI n) rec lim fb fj fm fw fr) U.heap ∧ va_K (dC, dI) vwCl [(cA, .int)] U)) (QcRead (aPick (mk fm) (mk fw) (nI n) k w x v)) 0 0 (fun _ => False) := by
  refine Met.ofW (cc := cX0_pick) (maxL := 8) (ret := (some .int)) (by decide) rfl ?_
  intro p e s m args below meth c s₁ B hml hv
  obtain ⟨rfl, hP, hK⟩ := hv
  have hx := B.exec
  have hb := B.bytes
  have hr := B.returns
  have hts := atoms_spec (ws := wsX0_pick) B.pre
  have hown : s.vm.findClass RX0 = some m.cls := findClass_of_methodNamed B.named
  have hlk := B.notSynchronized
  have hl := lv_entry ([.ref h, .int k, .int w, .int x, .int v]) (n := 8) (Nat.le_of_ble_eq_true rfl)
  rw [lg_entry_eq]
  generalize (lg_sl ([.ref h, .int k, .int w, .int x, .int v]) ++ List.replicate (8 - (lg_sl ([.ref h, .int k, .int w, .int x, .int v])).length) Slot.unset).toArray = ls at hl ⊢
  have hl : lv_has ls 8 [(0, .ref h), (1, .int k), (2, .int w), (3, .int x), (4, .int v)] := hl
  refine lv_aload_n hx hb dX0_pick_0 rfl (lv_at hl 0 rfl) ?_
  refine lv_iload_n hx hb dX0_pick_1 rfl (lv_at hl 1 rfl) ?_
  refine lv_iload_n hx hb dX0_pick_2 rfl (lv_at hl 2 rfl) ?_
  refine lv_iload_n hx hb dX0_pick_3 rfl (lv_at hl 3 rfl) ?_
  refine lv_iload hx hb dX0_pick_4 (lv_at hl 4 rfl) ?_
  refine q_cv [.int k, .int w, .int x, .int v] (rest := []) ⟨hx, hb, hml, hown, hts⟩ (mX0_isQuestion l dC dI h qb qj qm qw qr cA n rec lim fb fj fm fw fr k w x v) gX0_pick_X0_isQuestion rfl rfl rfl hdX0_isQuestion ⟨Nat.le_of_ble_eq_true rfl, Nat.le_of_ble_eq_true rfl⟩ rfl hK hP rfl rfl hl.1 rfl (Nat.le_of_ble_eq_true rfl) dX0_pick_6 ⟨Nat.zero_le _, Nat.zero_le _⟩ ?_
  refine lv_if_ne (tgt := 16) hx hb dX0_pick_9 (by decide) (fun c_1 => ?_) (fun c_1 => ?_)
  · skip
    have c_1 : (qst (nI n) k w x v) = true := b2i_n c_1
    obtain ⟨j, hj, rfl⟩ := jmp_of (qst_j c_1) hn
    refine lv_iload hx hb dX0_pick_16 (lv_at hl 4 rfl) ?_
    refine lv_istore (lv' := [(5, .int v), (0, .ref h), (1, .int k), (2, .int w), (3, .int (nI j)), (4, .int v)]) hx hb dX0_pick_18 hl (by decide) rfl (fun ls hl => ?_)
    refine lv_iconst (v := 0) hx hb dX0_pick_20 (by decide) ?_
    refine lv_istore (lv' := [(6, .int 0), (5, .int v), (0, .ref h), (1, .int k), (2, .int w), (3, .int (nI j)), (4, .int v)]) hx hb dX0_pick_21 hl (by decide) rfl (fun ls hl => ?_)
    refine q_lp (head := 23) (6) (fun i => [(0, .ref h), (1, .int k), (2, .int w), (3, .int (nI j)), (4, .int v), (5, .int (pckF k w (vlu (mk fm) (mk fw) w j) v i)), (6, .int (nI i))]) (fun i => True) (0) (by omega) (trivial) (q_hl (lv_sub (l' := [(0, .ref h), (1, .int k), (2, .int w), (3, .int (nI j)), (4, .int v), (5, .int v), (6, .int 0)]) hl [2, 3, 4, 5, 6, 1, 0] rfl) (q_ck (q_ck (q_ck (q_ck (q_ck (q_ce (by rfl) (q_ce (by rfl) (rfl))))))))) ?_ ?_
    · intro i hi_i hI_i ih_i ls hl
      have hl : lv_has ls 8 [(0, .ref h), (1, .int k), (2, .int w), (3, .int (nI j)), (4, .int v), (5, .int (pckF k w (vlu (mk fm) (mk fw) w j) v i)), (6, .int (nI i))] := hl
      refine lv_iload hx hb dX0_pick_23 (lv_at hl 6 rfl) ?_
      refine lv_bipush (v := 6) hx hb dX0_pick_25 (by decide) ?_
      refine lv_icmp_ge (tgt := 62) hx hb dX0_pick_27 (by decide) (fun c_2 => absurd c_2 (nI_ge (b := 6) hi_i (by decide))) (fun c_2 => ?_)
      refine lv_aload_n hx hb dX0_pick_30 rfl (lv_at hl 0 rfl) ?_
      refine lv_iload_n hx hb dX0_pick_31 rfl (lv_at hl 2 rfl) ?_
      refine lv_iload_n hx hb dX0_pick_32 rfl (lv_at hl 3 rfl) ?_
      refine lv_iload hx hb dX0_pick_33 (lv_at hl 6 rfl) ?_
      refine q_cv [.int w, .int (nI j), .int (nI i)] (rest := []) ⟨hx, hb, hml, hown, hts⟩ (mX0_valueOf l dC dI h qb qj qm qw qr cA n rec lim fb fj fm fw fr w j i (by omega) (by omega)) gX0_pick_X0_valueOf rfl rfl rfl hdX0_valueOf ⟨Nat.le_of_ble_eq_true rfl, Nat.le_of_ble_eq_true rfl⟩ rfl hK hP rfl rfl hl.1 rfl (Nat.le_of_ble_eq_true rfl) dX0_pick_35 ⟨Nat.zero_le _, Nat.zero_le _⟩ ?_
      refine lv_istore (lv' := [(7, .int (vlu (mk fm) (mk fw) w j i)), (0, .ref h), (1, .int k), (2, .int w), (3, .int (nI j)), (4, .int v), (5, .int (pckF k w (vlu (mk fm) (mk fw) w j) v i)), (6, .int (nI i))]) hx hb dX0_pick_38 hl (by decide) rfl (fun ls hl => ?_)
      refine lv_iload_n hx hb dX0_pick_40 rfl (lv_at hl 2 rfl) ?_
      refine lv_iload_n hx hb dX0_pick_41 rfl (lv_at hl 3 rfl) ?_
      refine lv_iload hx hb dX0_pick_42 (lv_at hl 0 rfl) ?_
      refine lv_iload hx hb dX0_pick_44 (lv_at hl 6 rfl) ?_
      refine q_cs [.int k, .int w, .int (vlu (mk fm) (mk fw) w j i), .int (pckF k w (vlu (mk fm) (mk fw) w j) v i)] (rest := []) ⟨hx, hb, hml, hown, hts⟩ (mX0_valueFits l k w (vlu (mk fm) (mk fw) w j i) (pckF k w (vlu (mk fm) (mk fw) w j) v i)) gX0_pick_X0_valueFits rfl rfl rfl hdX0_valueFits ⟨Nat.le_of_ble_eq_true rfl, Nat.le_of_ble_eq_true rfl⟩ rfl hl.1 rfl (Nat.le_of_ble_eq_true rfl) dX0_pick_46 ⟨Nat.zero_le _, Nat.zero_le _⟩ ?_
      refine lv_if_eq (tgt := 56) hx hb dX0_pick_49 (by decide) (fun c_3 => ?_) (fun c_3 => ?_)
      · skip
        have c_3 : (fitv k w (vlu (mk fm) (mk fw) w j i) (pckF k w (vlu (mk fm) (mk fw) w j) v i)) = false := b2i_0 c_3
        refine lv_iinc (v := (nI (i + 1))) (lv' := [(6, .int (nI (i + 1))), (7, .int (vlu (mk fm) (mk fw) w j i)), (0, .ref h), (1, .int k), (2, .int w), (3, .int (nI j)), (4, .int v), (5, .int (pckF k w (vlu (mk fm) (mk fw) w j) v i))]) hx hb dX0_pick_56 hl (k := 7) rfl (by exact nI_1 _) (by decide) rfl (fun ls hl => ?_)
        refine lv_goto (tgt := 23) hx hb dX0_pick_59 (by decide) ?_
        exact ih_i (by exact trivial) ls (q_hl (lv_sub (l' := [(0, .ref h), (1, .int k), (2, .int w), (3, .int (nI j)), (4, .int v), (5, .int (pckF k w (vlu (mk fm) (mk fw) w j) v i)), (6, .int (nI (i + 1)))]) hl [2, 3, 4, 5, 6, 7, 0] rfl) (q_ck (q_ck (q_ck (q_ck (q_ck (q_ce (by simp [pckF, c_1, c_3]) (q_ck (rfl)))))))))
      · skip
        have c_3 : (fitv k w (vlu (mk fm) (mk fw) w j i) (pckF k w (vlu (mk fm) (mk fw) w j) v i)) = true := b2i_n c_3
        refine lv_iload hx hb dX0_pick_52 (lv_at hl 0 rfl) ?_
        refine lv_istore (lv' := [(5, .int (vlu (mk fm) (mk fw) w j i)), (7, .int (vlu (mk fm) (mk fw) w j i)), (0, .ref h), (1, .int k), (2, .int w), (3, .int (nI j)), (4, .int v), (6, .int (nI i))]) hx hb dX0_pick_54 hl (by decide) rfl (fun ls hl => ?_)
        refine lv_iinc (v := (nI (i + 1))) (lv' := [(6, .int (nI (i + 1))), (5, .int (vlu (mk fm) (mk fw) w j i)), (7, .int (vlu (mk fm) (mk fw) w j i)), (0, .ref h), (1, .int k), (2, .int w), (3, .int (nI j)), (4, .int v)]) hx hb dX0_pick_56 hl (k := 7) rfl (by exact nI_1 _) (by decide) rfl (fun ls hl => ?_)
        refine lv_goto (tgt := 23) hx hb dX0_pick_59 (by decide) ?_
        exact ih_i (by exact trivial) ls (q_hl (lv_sub (l' := [(0, .ref h), (1, .int k), (2, .int w), (3, .int (nI j)), (4, .int v), (5, .int (vlu (mk fm) (mk fw) w j i)), (6, .int (nI (i + 1)))]) hl [3, 4, 5, 6, 7, 1, 0] rfl) (q_ck (q_ck (q_ck (q_ck (q_ck (q_ce (by simp [pckF, c_1, c_3]) (q_ck (rfl)))))))))
    · intro hI_i ls hl
      have hl : lv_has ls 8 [(0, .ref h), (1, .int k), (2, .int w), (3, .int (nI j)), (4, .int v), (5, .int (pckF k w (vlu (mk fm) (mk fw) w j) v 6)), (6, .int (nI 6))] := hl
      refine lv_iload hx hb dX0_pick_23 (lv_at hl 6 rfl) ?_
      refine lv_bipush (v := 6) hx hb dX0_pick_25 (by decide) ?_
      refine lv_icmp_ge (tgt := 62) hx hb dX0_pick_27 (by decide) (fun c_4 => ?_) (fun c_4 => absurd (by decide) c_4)
      refine lv_iload hx hb dX0_pick_62 (lv_at hl 5 rfl) ?_
      exact q_ri hx hb hr hlk (by rw [aPick, if_pos c_1, nI_clamp (by omega)]) dX0_pick_64
  · skip
    have c_1 : (qst (nI n) k w x v) = false := b2i_0 c_1
    refine lv_sipush (v := (-1000)) hx hb dX0_pick_12 (by decide) ?_
    exact q_ri hx hb hr hlk (by simp [aPick, c_1]) dX0_pick_15

theorem hdX0_best : yX0_best.cls = RX0 ∧ yX0_best.cls ≠ "java/lang/invoke/MethodHandle" ∧ yX0_best.cls ≠ "java/lang/invoke/VarHandle" ∧ (parseMethodDescriptor yX0_best.desc).map (fun d => d.parameters.length) = some 1 := by decide +kernel
set_option maxHeartbeats 4000000 in
set_option maxRecDepth 100000 in
theorem mX0_best (l : Launch) (dC : Nat → ClassId) (dI : Nat → Nat → Nat) (h qb qj qm qw qr : Nat) (cA : ClassId) (n : Nat) (rec lim : Int32) (fb fj fm fw fr : Nat → Int32) (x : Int32) (hn : n ≤ 8) : Met l yX0_best wsX0_best ({ frames := 4, cells := 0, slots := 0, locals := 90 }) (va_Pc [.ref h, .int x] (fun U => va_P (dC, dI) vwCl (wX h qb qj qm qw qr cA (nI n) rec lim fb fj fm fw fr) U.heap ∧ va_K (dC, dI) vwCl [(cA, .int)] U)) (QcRead (aBest (mk fm) (mk fw) lim (nI n) x)) 0 0 (fun _ => False) := by
  refine Met.ofW (cc := cX0_best) (maxL := 2) (ret := (some .int)) (by decide) rfl ?_
  intro p e s m args below meth c s₁ B hml hv
  obtain ⟨rfl, hP, hK⟩ := hv
  have hx := B.exec
  have hb := B.bytes
  have hr := B.returns
  have hts := atoms_spec (ws := wsX0_best) B.pre
  have hown : s.vm.findClass RX0 = some m.cls := findClass_of_methodNamed B.named
  have hlk := B.notSynchronized
  have hl := lv_entry ([.ref h, .int x]) (n := 2) (Nat.le_of_ble_eq_true rfl)
  rw [lg_entry_eq]
  generalize (lg_sl ([.ref h, .int x]) ++ List.replicate (2 - (lg_sl ([.ref h, .int x])).length) Slot.unset).toArray = ls at hl ⊢
  have hl : lv_has ls 2 [(0, .ref h), (1, .int x)] := hl
  refine lv_aload_n hx hb dX0_best_0 rfl (lv_at hl 0 rfl) ?_
  refine lv_iload_n hx hb dX0_best_1 rfl (lv_at hl 1 rfl) ?_
  refine q_cv [.int x] (rest := []) ⟨hx, hb, hml, hown, hts⟩ (mX0_isJumper l dC dI h qb qj qm qw qr cA n rec lim fb fj fm fw fr x) gX0_best_X0_isJumper rfl rfl rfl hdX0_isJumper ⟨Nat.le_of_ble_eq_true rfl, Nat.le_of_ble_eq_true rfl⟩ rfl hK hP rfl rfl hl.1 rfl (Nat.le_of_ble_eq_true rfl) dX0_best_2 ⟨Nat.zero_le _, Nat.zero_le _⟩ ?_
  refine lv_if_ne (tgt := 12) hx hb dX0_best_5 (by decide) (fun c_1 => ?_) (fun c_1 => ?_)
  · skip
    have c_1 : (jmp (nI n) x) = true := b2i_n c_1
    obtain ⟨j, hj, rfl⟩ := jmp_of c_1 hn
    refine lv_aload_n hx hb dX0_best_12 rfl (lv_at hl 0 rfl) ?_
    refine lv_iload_n hx hb dX0_best_13 rfl (lv_at hl 1 rfl) ?_
    refine q_cv [.int (nI j)] (rest := []) ⟨hx, hb, hml, hown, hts⟩ (mX0_bestOf l dC dI h qb qj qm qw qr cA n rec lim fb fj fm fw fr j (by omega)) gX0_best_X0_bestOf rfl rfl rfl hdX0_bestOf ⟨Nat.le_of_ble_eq_true rfl, Nat.le_of_ble_eq_true rfl⟩ rfl hK hP rfl rfl hl.1 rfl (Nat.le_of_ble_eq_true rfl) dX0_best_14 ⟨Nat.zero_le _, Nat.zero_le _⟩ ?_
    exact q_ri hx hb hr hlk (by rw [aBest, if_pos c_1, nI_clamp (by omega)]) dX0_best_17
  · skip
    have c_1 : (jmp (nI n) x) = false := b2i_0 c_1
    refine lv_sipush (v := (-1000)) hx hb dX0_best_8 (by decide) ?_
    exact q_ri hx hb hr hlk (by simp [aBest, c_1]) dX0_best_11

theorem hdX0_verdict : yX0_verdict.cls = RX0 ∧ yX0_verdict.cls ≠ "java/lang/invoke/MethodHandle" ∧ yX0_verdict.cls ≠ "java/lang/invoke/VarHandle" ∧ (parseMethodDescriptor yX0_verdict.desc).map (fun d => d.parameters.length) = some 2 := by decide +kernel
set_option maxHeartbeats 4000000 in
set_option maxRecDepth 100000 in
theorem mX0_verdict (l : Launch) (dC : Nat → ClassId) (dI : Nat → Nat → Nat) (h qb qj qm qw qr : Nat) (cA : ClassId) (n : Nat) (rec lim : Int32) (fb fj fm fw fr : Nat → Int32) (x : Int32) (r : Int32) (hn : n ≤ 8) : Met l yX0_verdict wsX0_verdict ({ frames := 3, cells := 0, slots := 0, locals := 69 }) (va_Pc [.ref h, .int x, .int r] (fun U => va_P (dC, dI) vwCl (wX h qb qj qm qw qr cA (nI n) rec lim fb fj fm fw fr) U.heap ∧ va_K (dC, dI) vwCl [(cA, .int)] U)) (QcRead (aVerdict (mk fm) (mk fw) rec lim (nI n) x r)) 0 0 (fun _ => False) := by
  refine Met.ofW (cc := cX0_verdict) (maxL := 6) (ret := (some .int)) (by decide) rfl ?_
  intro p e s m args below meth c s₁ B hml hv
  obtain ⟨rfl, hP, hK⟩ := hv
  have hx := B.exec
  have hb := B.bytes
  have hr := B.returns
  have hts := atoms_spec (ws := wsX0_verdict) B.pre
  have hown : s.vm.findClass RX0 = some m.cls := findClass_of_methodNamed B.named
  have hlk := B.notSynchronized
  have hin : ∀ w ∈ wsX00, w ∈ wsX0_verdict := fun w h => List.mem_cons_of_mem _ (List.mem_append_right _ h)
  have hf_13 := hts (.fieldLink RX0 13 "JumpBoard" "recordMark" "I") (by decide +kernel)
  have hf_16 := hts (.fieldLink RX0 16 "JumpBoard" "limitWind" "I") (by decide +kernel)
  have hf_26 := hts (.fieldLink RX0 26 "JumpBoard" "marks" "[I") (by decide +kernel)
  have hf_29 := hts (.fieldLink RX0 29 "JumpBoard" "winds" "[I") (by decide +kernel)
  have hl := lv_entry ([.ref h, .int x, .int r]) (n := 6) (Nat.le_of_ble_eq_true rfl)
  rw [lg_entry_eq]
  generalize (lg_sl ([.ref h, .int x, .int r]) ++ List.replicate (6 - (lg_sl ([.ref h, .int x, .int r])).length) Slot.unset).toArray = ls at hl ⊢
  have hl : lv_has ls 6 [(0, .ref h), (1, .int x), (2, .int r)] := hl
  refine lv_aload_n hx hb dX0_verdict_0 rfl (lv_at hl 0 rfl) ?_
  refine lv_iload_n hx hb dX0_verdict_1 rfl (lv_at hl 1 rfl) ?_
  refine q_cv [.int x] (rest := []) ⟨hx, hb, hml, hown, hts⟩ (mX0_isJumper l dC dI h qb qj qm qw qr cA n rec lim fb fj fm fw fr x) gX0_verdict_X0_isJumper rfl rfl rfl hdX0_isJumper ⟨Nat.le_of_ble_eq_true rfl, Nat.le_of_ble_eq_true rfl⟩ rfl hK hP rfl rfl hl.1 rfl (Nat.le_of_ble_eq_true rfl) dX0_verdict_2 ⟨Nat.zero_le _, Nat.zero_le _⟩ ?_
  refine lv_if_eq (tgt := 15) hx hb dX0_verdict_5 (by decide) (fun c_1 => ?_) (fun c_1 => ?_)
  · skip
    have c_1 : (jmp (nI n) x) = false := b2i_0 c_1
    refine lv_sipush (v := (-1000)) hx hb dX0_verdict_15 (by decide) ?_
    exact q_ri hx hb hr hlk (by simp [aVerdict, c_1]) dX0_verdict_18
  · skip
    have c_1 : (jmp (nI n) x) = true := b2i_n c_1
    refine lv_iload_n hx hb dX0_verdict_8 rfl (lv_at hl 2 rfl) ?_
    refine q_cs [.int r] (rest := []) ⟨hx, hb, hml, hown, hts⟩ (mX0_isRound l r) gX0_verdict_X0_isRound rfl rfl rfl hdX0_isRound ⟨Nat.le_of_ble_eq_true rfl, Nat.le_of_ble_eq_true rfl⟩ rfl hl.1 rfl (Nat.le_of_ble_eq_true rfl) dX0_verdict_9 ⟨Nat.zero_le _, Nat.zero_le _⟩ ?_
    refine lv_if_ne (tgt := 19) hx hb dX0_verdict_12 (by decide) (fun c_2 => ?_) (fun c_2 => ?_)
    · skip
      have c_2 : (rnd r) = true := b2i_n c_2
      obtain ⟨j, hj, rfl⟩ := jmp_of c_1 hn
      obtain ⟨r6, hr6, rfl⟩ := rnd_of c_2
      refine lv_aload_n hx hb dX0_verdict_19 rfl (lv_at hl 0 rfl) ?_
      refine va_get (D := (dC, dI)) (ci := 0) (v := .ref qm) (C := RX0) (T := TX0) (N := 8) hx hb hts hin hown hK hP 0 rfl rfl 5 (by decide) hf_26 (fun _ h9 => h9) rfl dX0_verdict_20 ?_
      refine lv_iload_n hx hb dX0_verdict_23 rfl (lv_at hl 1 rfl) ?_
      refine lv_iload_n hx hb dX0_verdict_24 rfl (lv_at hl 2 rfl) ?_
      refine q_cs [.int (nI j), .int (nI r6)] (rest := [.ref qm]) ⟨hx, hb, hml, hown, hts⟩ (mX0_at l j r6) gX0_verdict_X0_at rfl rfl rfl hdX0_at ⟨Nat.le_of_ble_eq_true rfl, Nat.le_of_ble_eq_true rfl⟩ rfl hl.1 rfl (Nat.le_of_ble_eq_true rfl) dX0_verdict_25 ⟨Nat.zero_le _, Nat.zero_le _⟩ ?_
      refine q_ald (n := 48) (k := (6 * j + r6)) hx hb hK hP 3 0 rfl rfl (by omega) (by decide) dX0_verdict_28 ?_
      refine lv_istore_n (lv' := [(3, .int (fm (6 * j + r6))), (0, .ref h), (1, .int (nI j)), (2, .int (nI r6))]) hx hb dX0_verdict_29 rfl hl (by decide) rfl (fun ls hl => ?_)
      refine lv_aload_n hx hb dX0_verdict_30 rfl (lv_at hl 1 rfl) ?_
      refine va_get (D := (dC, dI)) (ci := 0) (v := .ref qw) (C := RX0) (T := TX0) (N := 8) hx hb hts hin hown hK hP 0 rfl rfl 6 (by decide) hf_29 (fun _ h9 => h9) rfl dX0_verdict_31 ?_
      refine lv_iload_n hx hb dX0_verdict_34 rfl (lv_at hl 2 rfl) ?_
      refine lv_iload_n hx hb dX0_verdict_35 rfl (lv_at hl 3 rfl) ?_
      refine q_cs [.int (nI j), .int (nI r6)] (rest := [.ref qw]) ⟨hx, hb, hml, hown, hts⟩ (mX0_at l j r6) gX0_verdict_X0_at rfl rfl rfl hdX0_at ⟨Nat.le_of_ble_eq_true rfl, Nat.le_of_ble_eq_true rfl⟩ rfl hl.1 rfl (Nat.le_of_ble_eq_true rfl) dX0_verdict_36 ⟨Nat.zero_le _, Nat.zero_le _⟩ ?_
      refine q_ald (n := 48) (k := (6 * j + r6)) hx hb hK hP 4 0 rfl rfl (by omega) (by decide) dX0_verdict_39 ?_
      refine lv_istore (lv' := [(4, .int (fw (6 * j + r6))), (3, .int (fm (6 * j + r6))), (0, .ref h), (1, .int (nI j)), (2, .int (nI r6))]) hx hb dX0_verdict_40 hl (by decide) rfl (fun ls hl => ?_)
      refine lv_iconst (v := 0) hx hb dX0_verdict_42 (by decide) ?_
      refine lv_istore (lv' := [(5, .int 0), (4, .int (fw (6 * j + r6))), (3, .int (fm (6 * j + r6))), (0, .ref h), (1, .int (nI j)), (2, .int (nI r6))]) hx hb dX0_verdict_43 hl (by decide) rfl (fun ls hl => ?_)
      refine lv_iload hx hb dX0_verdict_45 (lv_at hl 0 rfl) ?_
      refine lv_iload_n hx hb dX0_verdict_47 rfl (lv_at hl 2 rfl) ?_
      refine q_jn (pj := 56) (v := ifz (!decide (mk fm j r6 = 0)) 1) (rest := [.int 0]) ?_ (fun J => ?_)
      rotate_left
      · skip
        refine lv_if_eq (tgt := 55) hx hb dX0_verdict_48 (by decide) (fun c_3 => ?_) (fun c_3 => ?_)
        · skip
          refine lv_iconst (v := 0) hx hb dX0_verdict_55 (by decide) ?_
          exact q_top (by simp [ifz, mk, c_1, c_2, c_3] <;> simp_all [mk]) J
        · skip
          refine lv_iconst (v := 1) hx hb dX0_verdict_51 (by decide) ?_
          refine lv_goto (tgt := 56) hx hb dX0_verdict_52 (by decide) ?_
          exact q_top (by simp [ifz, mk, c_1, c_2, c_3] <;> simp_all [mk]) J
      refine lv_iadd hx hb dX0_verdict_56 ?_
      refine lv_istore (lv' := [(5, .int (0 + (ifz (!decide (mk fm j r6 = 0)) 1))), (4, .int (fw (6 * j + r6))), (3, .int (fm (6 * j + r6))), (0, .ref h), (1, .int (nI j)), (2, .int (nI r6))]) hx hb dX0_verdict_57 hl (by decide) rfl (fun ls hl => ?_)
      refine lv_iload hx hb dX0_verdict_59 (lv_at hl 0 rfl) ?_
      refine lv_iload hx hb dX0_verdict_61 (lv_at hl 1 rfl) ?_
      refine lv_bipush (v := 100) hx hb dX0_verdict_63 (by decide) ?_
      refine q_jn (pj := 73) (v := ifz (!decide (mk fw j r6 = 100)) 2) (rest := [.int (0 + (ifz (!decide (mk fm j r6 = 0)) 1))]) ?_ (fun J => ?_)
      rotate_left
      · skip
        refine lv_icmp_eq (tgt := 72) hx hb dX0_verdict_65 (by decide) (fun c_4 => ?_) (fun c_4 => ?_)
        · skip
          refine lv_iconst (v := 0) hx hb dX0_verdict_72 (by decide) ?_
          exact q_top (by simp [ifz, mk, c_1, c_2, c_4] <;> simp_all [mk]) J
        · skip
          refine lv_iconst (v := 2) hx hb dX0_verdict_68 (by decide) ?_
          refine lv_goto (tgt := 73) hx hb dX0_verdict_69 (by decide) ?_
          exact q_top (by simp [ifz, mk, c_1, c_2, c_4] <;> simp_all [mk]) J
      refine lv_iadd hx hb dX0_verdict_73 ?_
      refine lv_istore (lv' := [(5, .int ((0 + (ifz (!decide (mk fm j r6 = 0)) 1)) + (ifz (!decide (mk fw j r6 = 100)) 2))), (4, .int (fw (6 * j + r6))), (3, .int (fm (6 * j + r6))), (0, .ref h), (1, .int (nI j)), (2, .int (nI r6))]) hx hb dX0_verdict_74 hl (by decide) rfl (fun ls hl => ?_)
      refine lv_iload hx hb dX0_verdict_76 (lv_at hl 0 rfl) ?_
      refine lv_aload_n hx hb dX0_verdict_78 rfl (lv_at hl 3 rfl) ?_
      refine lv_iload_n hx hb dX0_verdict_79 rfl (lv_at hl 4 rfl) ?_
      refine lv_iload_n hx hb dX0_verdict_80 rfl (lv_at hl 5 rfl) ?_
      refine q_cv [.int (nI j), .int (nI r6)] (rest := [.int ((0 + (ifz (!decide (mk fm j r6 = 0)) 1)) + (ifz (!decide (mk fw j r6 = 100)) 2))]) ⟨hx, hb, hml, hown, hts⟩ (mX0_isLegal l dC dI h qb qj qm qw qr cA n rec lim fb fj fm fw fr j r6 (by omega) (by omega)) gX0_verdict_X0_isLegal rfl rfl rfl hdX0_isLegal ⟨Nat.le_of_ble_eq_true rfl, Nat.le_of_ble_eq_true rfl⟩ rfl hK hP rfl rfl hl.1 rfl (Nat.le_of_ble_eq_true rfl) dX0_verdict_81 ⟨Nat.zero_le _, Nat.zero_le _⟩ ?_
      refine q_jn (pj := 92) (v := ifz (lgl (mk fm) (mk fw) lim j r6) 4) (rest := [.int ((0 + (ifz (!decide (mk fm j r6 = 0)) 1)) + (ifz (!decide (mk fw j r6 = 100)) 2))]) ?_ (fun J => ?_)
      rotate_left
      · skip
        refine lv_if_eq (tgt := 91) hx hb dX0_verdict_84 (by decide) (fun c_5 => ?_) (fun c_5 => ?_)
        · skip
          have c_5 : (lgl (mk fm) (mk fw) lim j r6) = false := b2i_0 c_5
          refine lv_iconst (v := 0) hx hb dX0_verdict_91 (by decide) ?_
          exact q_top (by simp [ifz, mk, c_1, c_2, c_5] <;> simp_all [mk]) J
        · skip
          have c_5 : (lgl (mk fm) (mk fw) lim j r6) = true := b2i_n c_5
          refine lv_iconst (v := 4) hx hb dX0_verdict_87 (by decide) ?_
          refine lv_goto (tgt := 92) hx hb dX0_verdict_88 (by decide) ?_
          exact q_top (by simp [ifz, mk, c_1, c_2, c_5] <;> simp_all [mk]) J
      refine lv_iadd hx hb dX0_verdict_92 ?_
      refine lv_istore (lv' := [(5, .int (((0 + (ifz (!decide (mk fm j r6 = 0)) 1)) + (ifz (!decide (mk fw j r6 = 100)) 2)) + (ifz (lgl (mk fm) (mk fw) lim j r6) 4))), (4, .int (fw (6 * j + r6))), (3, .int (fm (6 * j + r6))), (0, .ref h), (1, .int (nI j)), (2, .int (nI r6))]) hx hb dX0_verdict_93 hl (by decide) rfl (fun ls hl => ?_)
      refine lv_iload hx hb dX0_verdict_95 (lv_at hl 0 rfl) ?_
      refine lv_iconst (v := 3) hx hb dX0_verdict_97 (by decide) ?_
      refine lv_iconst (v := 0) hx hb dX0_verdict_98 (by decide) ?_
      refine lv_iload_n hx hb dX0_verdict_99 rfl (lv_at hl 2 rfl) ?_
      refine lv_aload_n hx hb dX0_verdict_100 rfl (lv_at hl 3 rfl) ?_
      refine va_get (D := (dC, dI)) (ci := 0) (v := .int rec) (C := RX0) (T := TX0) (N := 8) hx hb hts hin hown hK hP 0 rfl rfl 1 (by decide) hf_13 (fun _ h9 => h9) rfl dX0_verdict_101 ?_
      refine q_cs [.int 3, .int 0, .int (fm (6 * j + r6)), .int rec] (rest := [.int (((0 + (ifz (!decide (mk fm j r6 = 0)) 1)) + (ifz (!decide (mk fw j r6 = 100)) 2)) + (ifz (lgl (mk fm) (mk fw) lim j r6) 4))]) ⟨hx, hb, hml, hown, hts⟩ (mX0_valueFits l 3 0 (fm (6 * j + r6)) rec) gX0_verdict_X0_valueFits rfl rfl rfl hdX0_valueFits ⟨Nat.le_of_ble_eq_true rfl, Nat.le_of_ble_eq_true rfl⟩ rfl hl.1 rfl (Nat.le_of_ble_eq_true rfl) dX0_verdict_104 ⟨Nat.zero_le _, Nat.zero_le _⟩ ?_
      refine q_jn (pj := 116) (v := ifz (fitv 3 0 (mk fm j r6) rec) 8) (rest := [.int (((0 + (ifz (!decide (mk fm j r6 = 0)) 1)) + (ifz (!decide (mk fw j r6 = 100)) 2)) + (ifz (lgl (mk fm) (mk fw) lim j r6) 4))]) ?_ (fun J => ?_)
      rotate_left
      · skip
        refine lv_if_eq (tgt := 115) hx hb dX0_verdict_107 (by decide) (fun c_6 => ?_) (fun c_6 => ?_)
        · skip
          have c_6 : (fitv 3 0 (fm (6 * j + r6)) rec) = false := b2i_0 c_6
          refine lv_iconst (v := 0) hx hb dX0_verdict_115 (by decide) ?_
          exact q_top (by simp [ifz, mk, c_1, c_2, c_6] <;> simp_all [mk]) J
        · skip
          have c_6 : (fitv 3 0 (fm (6 * j + r6)) rec) = true := b2i_n c_6
          refine lv_bipush (v := 8) hx hb dX0_verdict_110 (by decide) ?_
          refine lv_goto (tgt := 116) hx hb dX0_verdict_112 (by decide) ?_
          exact q_top (by simp [ifz, mk, c_1, c_2, c_6] <;> simp_all [mk]) J
      refine lv_iadd hx hb dX0_verdict_116 ?_
      refine lv_istore (lv' := [(5, .int ((((0 + (ifz (!decide (mk fm j r6 = 0)) 1)) + (ifz (!decide (mk fw j r6 = 100)) 2)) + (ifz (lgl (mk fm) (mk fw) lim j r6) 4)) + (ifz (fitv 3 0 (mk fm j r6) rec) 8))), (4, .int (fw (6 * j + r6))), (3, .int (fm (6 * j + r6))), (0, .ref h), (1, .int (nI j)), (2, .int (nI r6))]) hx hb dX0_verdict_117 hl (by decide) rfl (fun ls hl => ?_)
      refine lv_iload hx hb dX0_verdict_119 (lv_at hl 0 rfl) ?_
      refine lv_iconst (v := 2) hx hb dX0_verdict_121 (by decide) ?_
      refine lv_iconst (v := 0) hx hb dX0_verdict_122 (by decide) ?_
      refine lv_iload_n hx hb dX0_verdict_123 rfl (lv_at hl 2 rfl) ?_
      refine lv_aload_n hx hb dX0_verdict_124 rfl (lv_at hl 3 rfl) ?_
      refine va_get (D := (dC, dI)) (ci := 0) (v := .int rec) (C := RX0) (T := TX0) (N := 8) hx hb hts hin hown hK hP 0 rfl rfl 1 (by decide) hf_13 (fun _ h9 => h9) rfl dX0_verdict_125 ?_
      refine q_cs [.int 2, .int 0, .int (fm (6 * j + r6)), .int rec] (rest := [.int ((((0 + (ifz (!decide (mk fm j r6 = 0)) 1)) + (ifz (!decide (mk fw j r6 = 100)) 2)) + (ifz (lgl (mk fm) (mk fw) lim j r6) 4)) + (ifz (fitv 3 0 (mk fm j r6) rec) 8))]) ⟨hx, hb, hml, hown, hts⟩ (mX0_valueFits l 2 0 (fm (6 * j + r6)) rec) gX0_verdict_X0_valueFits rfl rfl rfl hdX0_valueFits ⟨Nat.le_of_ble_eq_true rfl, Nat.le_of_ble_eq_true rfl⟩ rfl hl.1 rfl (Nat.le_of_ble_eq_true rfl) dX0_verdict_128 ⟨Nat.zero_le _, Nat.zero_le _⟩ ?_
      refine q_jn (pj := 140) (v := ifz (fitv 2 0 (mk fm j r6) rec) 16) (rest := [.int ((((0 + (ifz (!decide (mk fm j r6 = 0)) 1)) + (ifz (!decide (mk fw j r6 = 100)) 2)) + (ifz (lgl (mk fm) (mk fw) lim j r6) 4)) + (ifz (fitv 3 0 (mk fm j r6) rec) 8))]) ?_ (fun J => ?_)
      rotate_left
      · skip
        refine lv_if_eq (tgt := 139) hx hb dX0_verdict_131 (by decide) (fun c_7 => ?_) (fun c_7 => ?_)
        · skip
          have c_7 : (fitv 2 0 (fm (6 * j + r6)) rec) = false := b2i_0 c_7
          refine lv_iconst (v := 0) hx hb dX0_verdict_139 (by decide) ?_
          exact q_top (by simp [ifz, mk, c_1, c_2, c_7] <;> simp_all [mk]) J
        · skip
          have c_7 : (fitv 2 0 (fm (6 * j + r6)) rec) = true := b2i_n c_7
          refine lv_bipush (v := 16) hx hb dX0_verdict_134 (by decide) ?_
          refine lv_goto (tgt := 140) hx hb dX0_verdict_136 (by decide) ?_
          exact q_top (by simp [ifz, mk, c_1, c_2, c_7] <;> simp_all [mk]) J
      refine lv_iadd hx hb dX0_verdict_140 ?_
      refine lv_istore (lv' := [(5, .int (((((0 + (ifz (!decide (mk fm j r6 = 0)) 1)) + (ifz (!decide (mk fw j r6 = 100)) 2)) + (ifz (lgl (mk fm) (mk fw) lim j r6) 4)) + (ifz (fitv 3 0 (mk fm j r6) rec) 8)) + (ifz (fitv 2 0 (mk fm j r6) rec) 16))), (4, .int (fw (6 * j + r6))), (3, .int (fm (6 * j + r6))), (0, .ref h), (1, .int (nI j)), (2, .int (nI r6))]) hx hb dX0_verdict_141 hl (by decide) rfl (fun ls hl => ?_)
      refine lv_iload hx hb dX0_verdict_143 (lv_at hl 0 rfl) ?_
      refine lv_iconst (v := 4) hx hb dX0_verdict_145 (by decide) ?_
      refine lv_iconst (v := 0) hx hb dX0_verdict_146 (by decide) ?_
      refine lv_iload_n hx hb dX0_verdict_147 rfl (lv_at hl 2 rfl) ?_
      refine lv_aload_n hx hb dX0_verdict_148 rfl (lv_at hl 3 rfl) ?_
      refine va_get (D := (dC, dI)) (ci := 0) (v := .int rec) (C := RX0) (T := TX0) (N := 8) hx hb hts hin hown hK hP 0 rfl rfl 1 (by decide) hf_13 (fun _ h9 => h9) rfl dX0_verdict_149 ?_
      refine q_cs [.int 4, .int 0, .int (fm (6 * j + r6)), .int rec] (rest := [.int (((((0 + (ifz (!decide (mk fm j r6 = 0)) 1)) + (ifz (!decide (mk fw j r6 = 100)) 2)) + (ifz (lgl (mk fm) (mk fw) lim j r6) 4)) + (ifz (fitv 3 0 (mk fm j r6) rec) 8)) + (ifz (fitv 2 0 (mk fm j r6) rec) 16))]) ⟨hx, hb, hml, hown, hts⟩ (mX0_valueFits l 4 0 (fm (6 * j + r6)) rec) gX0_verdict_X0_valueFits rfl rfl rfl hdX0_valueFits ⟨Nat.le_of_ble_eq_true rfl, Nat.le_of_ble_eq_true rfl⟩ rfl hl.1 rfl (Nat.le_of_ble_eq_true rfl) dX0_verdict_152 ⟨Nat.zero_le _, Nat.zero_le _⟩ ?_
      refine q_jn (pj := 164) (v := ifz (fitv 4 0 (mk fm j r6) rec) 32) (rest := [.int (((((0 + (ifz (!decide (mk fm j r6 = 0)) 1)) + (ifz (!decide (mk fw j r6 = 100)) 2)) + (ifz (lgl (mk fm) (mk fw) lim j r6) 4)) + (ifz (fitv 3 0 (mk fm j r6) rec) 8)) + (ifz (fitv 2 0 (mk fm j r6) rec) 16))]) ?_ (fun J => ?_)
      rotate_left
      · skip
        refine lv_if_eq (tgt := 163) hx hb dX0_verdict_155 (by decide) (fun c_8 => ?_) (fun c_8 => ?_)
        · skip
          have c_8 : (fitv 4 0 (fm (6 * j + r6)) rec) = false := b2i_0 c_8
          refine lv_iconst (v := 0) hx hb dX0_verdict_163 (by decide) ?_
          exact q_top (by simp [ifz, mk, c_1, c_2, c_8] <;> simp_all [mk]) J
        · skip
          have c_8 : (fitv 4 0 (fm (6 * j + r6)) rec) = true := b2i_n c_8
          refine lv_bipush (v := 32) hx hb dX0_verdict_158 (by decide) ?_
          refine lv_goto (tgt := 164) hx hb dX0_verdict_160 (by decide) ?_
          exact q_top (by simp [ifz, mk, c_1, c_2, c_8] <;> simp_all [mk]) J
      refine lv_iadd hx hb dX0_verdict_164 ?_
      refine lv_istore (lv' := [(5, .int ((((((0 + (ifz (!decide (mk fm j r6 = 0)) 1)) + (ifz (!decide (mk fw j r6 = 100)) 2)) + (ifz (lgl (mk fm) (mk fw) lim j r6) 4)) + (ifz (fitv 3 0 (mk fm j r6) rec) 8)) + (ifz (fitv 2 0 (mk fm j r6) rec) 16)) + (ifz (fitv 4 0 (mk fm j r6) rec) 32))), (4, .int (fw (6 * j + r6))), (3, .int (fm (6 * j + r6))), (0, .ref h), (1, .int (nI j)), (2, .int (nI r6))]) hx hb dX0_verdict_165 hl (by decide) rfl (fun ls hl => ?_)
      refine lv_iload hx hb dX0_verdict_167 (lv_at hl 0 rfl) ?_
      refine lv_iconst (v := 1) hx hb dX0_verdict_169 (by decide) ?_
      refine lv_iconst (v := 1) hx hb dX0_verdict_170 (by decide) ?_
      refine lv_iload hx hb dX0_verdict_171 (lv_at hl 1 rfl) ?_
      refine lv_aload_n hx hb dX0_verdict_173 rfl (lv_at hl 3 rfl) ?_
      refine va_get (D := (dC, dI)) (ci := 0) (v := .int lim) (C := RX0) (T := TX0) (N := 8) hx hb hts hin hown hK hP 0 rfl rfl 2 (by decide) hf_16 (fun _ h9 => h9) rfl dX0_verdict_174 ?_
      refine q_cs [.int 1, .int 1, .int (fw (6 * j + r6)), .int lim] (rest := [.int ((((((0 + (ifz (!decide (mk fm j r6 = 0)) 1)) + (ifz (!decide (mk fw j r6 = 100)) 2)) + (ifz (lgl (mk fm) (mk fw) lim j r6) 4)) + (ifz (fitv 3 0 (mk fm j r6) rec) 8)) + (ifz (fitv 2 0 (mk fm j r6) rec) 16)) + (ifz (fitv 4 0 (mk fm j r6) rec) 32))]) ⟨hx, hb, hml, hown, hts⟩ (mX0_valueFits l 1 1 (fw (6 * j + r6)) lim) gX0_verdict_X0_valueFits rfl rfl rfl hdX0_valueFits ⟨Nat.le_of_ble_eq_true rfl, Nat.le_of_ble_eq_true rfl⟩ rfl hl.1 rfl (Nat.le_of_ble_eq_true rfl) dX0_verdict_177 ⟨Nat.zero_le _, Nat.zero_le _⟩ ?_
      refine q_jn (pj := 189) (v := ifz (fitv 1 1 (mk fw j r6) lim) 64) (rest := [.int ((((((0 + (ifz (!decide (mk fm j r6 = 0)) 1)) + (ifz (!decide (mk fw j r6 = 100)) 2)) + (ifz (lgl (mk fm) (mk fw) lim j r6) 4)) + (ifz (fitv 3 0 (mk fm j r6) rec) 8)) + (ifz (fitv 2 0 (mk fm j r6) rec) 16)) + (ifz (fitv 4 0 (mk fm j r6) rec) 32))]) ?_ (fun J => ?_)
      rotate_left
      · skip
        refine lv_if_eq (tgt := 188) hx hb dX0_verdict_180 (by decide) (fun c_9 => ?_) (fun c_9 => ?_)
        · skip
          have c_9 : (fitv 1 1 (fw (6 * j + r6)) lim) = false := b2i_0 c_9
          refine lv_iconst (v := 0) hx hb dX0_verdict_188 (by decide) ?_
          exact q_top (by simp [ifz, mk, c_1, c_2, c_9] <;> simp_all [mk]) J
        · skip
          have c_9 : (fitv 1 1 (fw (6 * j + r6)) lim) = true := b2i_n c_9
          refine lv_bipush (v := 64) hx hb dX0_verdict_183 (by decide) ?_
          refine lv_goto (tgt := 189) hx hb dX0_verdict_185 (by decide) ?_
          exact q_top (by simp [ifz, mk, c_1, c_2, c_9] <;> simp_all [mk]) J
      refine lv_iadd hx hb dX0_verdict_189 ?_
      refine lv_istore (lv' := [(5, .int (((((((0 + (ifz (!decide (mk fm j r6 = 0)) 1)) + (ifz (!decide (mk fw j r6 = 100)) 2)) + (ifz (lgl (mk fm) (mk fw) lim j r6) 4)) + (ifz (fitv 3 0 (mk fm j r6) rec) 8)) + (ifz (fitv 2 0 (mk fm j r6) rec) 16)) + (ifz (fitv 4 0 (mk fm j r6) rec) 32)) + (ifz (fitv 1 1 (mk fw j r6) lim) 64))), (4, .int (fw (6 * j + r6))), (3, .int (fm (6 * j + r6))), (0, .ref h), (1, .int (nI j)), (2, .int (nI r6))]) hx hb dX0_verdict_190 hl (by decide) rfl (fun ls hl => ?_)
      refine lv_iload hx hb dX0_verdict_192 (lv_at hl 0 rfl) ?_
      refine lv_aload_n hx hb dX0_verdict_194 rfl (lv_at hl 3 rfl) ?_
      refine lv_iload_n hx hb dX0_verdict_195 rfl (lv_at hl 4 rfl) ?_
      refine lv_iload_n hx hb dX0_verdict_196 rfl (lv_at hl 5 rfl) ?_
      refine q_cv [.int (nI j), .int (nI r6)] (rest := [.int (((((((0 + (ifz (!decide (mk fm j r6 = 0)) 1)) + (ifz (!decide (mk fw j r6 = 100)) 2)) + (ifz (lgl (mk fm) (mk fw) lim j r6) 4)) + (ifz (fitv 3 0 (mk fm j r6) rec) 8)) + (ifz (fitv 2 0 (mk fm j r6) rec) 16)) + (ifz (fitv 4 0 (mk fm j r6) rec) 32)) + (ifz (fitv 1 1 (mk fw j r6) lim) 64))]) ⟨hx, hb, hml, hown, hts⟩ (mX0_beatsEarlierRounds l dC dI h qb qj qm qw qr cA n rec lim fb fj fm fw fr j r6 (by omega) (by omega)) gX0_verdict_X0_beatsEarlierRounds rfl rfl rfl hdX0_beatsEarlierRounds ⟨Nat.le_of_ble_eq_true rfl, Nat.le_of_ble_eq_true rfl⟩ rfl hK hP rfl rfl hl.1 rfl (Nat.le_of_ble_eq_true rfl) dX0_verdict_197 ⟨Nat.zero_le _, Nat.zero_le _⟩ ?_
      refine q_jn (pj := 210) (v := ifz (bts (mk fm j) r6) 128) (rest := [.int (((((((0 + (ifz (!decide (mk fm j r6 = 0)) 1)) + (ifz (!decide (mk fw j r6 = 100)) 2)) + (ifz (lgl (mk fm) (mk fw) lim j r6) 4)) + (ifz (fitv 3 0 (mk fm j r6) rec) 8)) + (ifz (fitv 2 0 (mk fm j r6) rec) 16)) + (ifz (fitv 4 0 (mk fm j r6) rec) 32)) + (ifz (fitv 1 1 (mk fw j r6) lim) 64))]) ?_ (fun J => ?_)
      rotate_left
      · skip
        refine lv_if_eq (tgt := 209) hx hb dX0_verdict_200 (by decide) (fun c_10 => ?_) (fun c_10 => ?_)
        · skip
          have c_10 : (bts (mk fm j) r6) = false := b2i_0 c_10
          refine lv_iconst (v := 0) hx hb dX0_verdict_209 (by decide) ?_
          exact q_top (by simp [ifz, mk, c_1, c_2, c_10] <;> simp_all [mk]) J
        · skip
          have c_10 : (bts (mk fm j) r6) = true := b2i_n c_10
          refine lv_sipush (v := 128) hx hb dX0_verdict_203 (by decide) ?_
          refine lv_goto (tgt := 210) hx hb dX0_verdict_206 (by decide) ?_
          exact q_top (by simp [ifz, mk, c_1, c_2, c_10] <;> simp_all [mk]) J
      refine lv_iadd hx hb dX0_verdict_210 ?_
      refine lv_istore (lv' := [(5, .int ((((((((0 + (ifz (!decide (mk fm j r6 = 0)) 1)) + (ifz (!decide (mk fw j r6 = 100)) 2)) + (ifz (lgl (mk fm) (mk fw) lim j r6) 4)) + (ifz (fitv 3 0 (mk fm j r6) rec) 8)) + (ifz (fitv 2 0 (mk fm j r6) rec) 16)) + (ifz (fitv 4 0 (mk fm j r6) rec) 32)) + (ifz (fitv 1 1 (mk fw j r6) lim) 64)) + (ifz (bts (mk fm j) r6) 128))), (4, .int (fw (6 * j + r6))), (3, .int (fm (6 * j + r6))), (0, .ref h), (1, .int (nI j)), (2, .int (nI r6))]) hx hb dX0_verdict_211 hl (by decide) rfl (fun ls hl => ?_)
      refine lv_iload hx hb dX0_verdict_213 (lv_at hl 0 rfl) ?_
      exact q_ri hx hb hr hlk (by rw [aVerdict, if_pos (by simp [c_1, c_2]), nI_clamp (by omega), nI_clamp (by omega), vdt, Int32.zero_add]) dX0_verdict_215
    · skip
      have c_2 : (rnd r) = false := b2i_0 c_2
      refine lv_sipush (v := (-1000)) hx hb dX0_verdict_15 (by decide) ?_
      exact q_ri hx hb hr hlk (by simp [aVerdict, c_1, c_2]) dX0_verdict_18

theorem hdX0_told : yX0_told.cls = RX0 ∧ yX0_told.cls ≠ "java/lang/invoke/MethodHandle" ∧ yX0_told.cls ≠ "java/lang/invoke/VarHandle" ∧ (parseMethodDescriptor yX0_told.desc).map (fun d => d.parameters.length) = some 1 := by decide +kernel
set_option maxHeartbeats 4000000 in
set_option maxRecDepth 100000 in
theorem mX0_told (l : Launch) (dC : Nat → ClassId) (dI : Nat → Nat → Nat) (h qb qj qm qw qr : Nat) (cA : ClassId) (n : Nat) (rec lim : Int32) (fb fj fm fw fr : Nat → Int32) (w : Int32) (hn : n ≤ 8) : Met l yX0_told wsX0_told ({ frames := 4, cells := 0, slots := 0, locals := 90 }) (va_Pc [.ref h, .int w] (fun U => va_P (dC, dI) vwCl (wX h qb qj qm qw qr cA (nI n) rec lim fb fj fm fw fr) U.heap ∧ va_K (dC, dI) vwCl [(cA, .int)] U)) (QcRead (a0Told fj fm (mk fm) (mk fw) n rec lim w)) 0 0 (fun _ => False) := by
  refine Met.ofW (cc := cX0_told) (maxL := 2) (ret := (some .int)) (by decide) rfl ?_
  intro p e s m args below meth c s₁ B hml hv
  obtain ⟨rfl, hP, hK⟩ := hv
  have hx := B.exec
  have hb := B.bytes
  have hr := B.returns
  have hts := atoms_spec (ws := wsX0_told) B.pre
  have hown : s.vm.findClass RX0 = some m.cls := findClass_of_methodNamed B.named
  have hlk := B.notSynchronized
  have hin : ∀ w ∈ wsX00, w ∈ wsX0_told := fun w h => List.mem_cons_of_mem _ (List.mem_append_right _ h)
  have hf_7 := hts (.fieldLink RX0 7 "JumpBoard" "jumpers" "I") (by decide +kernel)
  have hf_13 := hts (.fieldLink RX0 13 "JumpBoard" "recordMark" "I") (by decide +kernel)
  have hf_16 := hts (.fieldLink RX0 16 "JumpBoard" "limitWind" "I") (by decide +kernel)
  have hl := lv_entry ([.ref h, .int w]) (n := 2) (Nat.le_of_ble_eq_true rfl)
  rw [lg_entry_eq]
  generalize (lg_sl ([.ref h, .int w]) ++ List.replicate (2 - (lg_sl ([.ref h, .int w])).length) Slot.unset).toArray = ls at hl ⊢
  have hl : lv_has ls 2 [(0, .ref h), (1, .int w)] := hl
  refine lv_iload_n hx hb dX0_told_0 rfl (lv_at hl 1 rfl) ?_
  by_cases c_1 : w = 0
  · skip
    refine lv_tableIn (tgt := 40) hx hb dX0_told_1 (by rw [c_1]; decide) (by rw [c_1]; decide) (by rw [c_1]; rfl) (by decide) ?_
    refine lv_aload_n hx hb dX0_told_40 rfl (lv_at hl 0 rfl) ?_
    refine va_get (D := (dC, dI)) (ci := 0) (v := .int (nI n)) (C := RX0) (T := TX0) (N := 8) hx hb hts hin hown hK hP 0 rfl rfl 0 (by decide) hf_7 (fun _ h9 => h9) rfl dX0_told_41 ?_
    exact q_ri hx hb hr hlk (by simp [a0Told, c_1]) dX0_told_44
  by_cases c_2 : w = 1
  · skip
    refine lv_tableIn (tgt := 45) hx hb dX0_told_1 (by rw [c_2]; decide) (by rw [c_2]; decide) (by rw [c_2]; rfl) (by decide) ?_
    refine lv_aload_n hx hb dX0_told_45 rfl (lv_at hl 0 rfl) ?_
    refine q_cv [] (rest := []) ⟨hx, hb, hml, hown, hts⟩ (mX0_howManyJumped l dC dI h qb qj qm qw qr cA n rec lim fb fj fm fw fr (by omega)) gX0_told_X0_howManyJumped rfl rfl rfl hdX0_howManyJumped ⟨Nat.le_of_ble_eq_true rfl, Nat.le_of_ble_eq_true rfl⟩ rfl hK hP rfl rfl hl.1 rfl (Nat.le_of_ble_eq_true rfl) dX0_told_46 ⟨Nat.zero_le _, Nat.zero_le _⟩ ?_
    exact q_ri hx hb hr hlk (by simp [a0Told, c_1, c_2]) dX0_told_49
  by_cases c_3 : w = 2
  · skip
    refine lv_tableIn (tgt := 50) hx hb dX0_told_1 (by rw [c_3]; decide) (by rw [c_3]; decide) (by rw [c_3]; rfl) (by decide) ?_
    refine lv_aload_n hx hb dX0_told_50 rfl (lv_at hl 0 rfl) ?_
    refine q_cv [] (rest := []) ⟨hx, hb, hml, hown, hts⟩ (mX0_howManyJumped l dC dI h qb qj qm qw qr cA n rec lim fb fj fm fw fr (by omega)) gX0_told_X0_howManyJumped rfl rfl rfl hdX0_howManyJumped ⟨Nat.le_of_ble_eq_true rfl, Nat.le_of_ble_eq_true rfl⟩ rfl hK hP rfl rfl hl.1 rfl (Nat.le_of_ble_eq_true rfl) dX0_told_51 ⟨Nat.zero_le _, Nat.zero_le _⟩ ?_
    refine lv_aload_n hx hb dX0_told_54 rfl (lv_at hl 0 rfl) ?_
    refine q_cv [] (rest := [.int (sumI fj n)]) ⟨hx, hb, hml, hown, hts⟩ (mX0_howManyMarked l dC dI h qb qj qm qw qr cA n rec lim fb fj fm fw fr) gX0_told_X0_howManyMarked rfl rfl rfl hdX0_howManyMarked ⟨Nat.le_of_ble_eq_true rfl, Nat.le_of_ble_eq_true rfl⟩ rfl hK hP rfl rfl hl.1 rfl (Nat.le_of_ble_eq_true rfl) dX0_told_55 ⟨Nat.zero_le _, Nat.zero_le _⟩ ?_
    refine lv_isub hx hb dX0_told_58 ?_
    exact q_ri hx hb hr hlk (by simp [a0Told, c_1, c_2, c_3]) dX0_told_59
  by_cases c_4 : w = 3
  · skip
    refine lv_tableIn (tgt := 60) hx hb dX0_told_1 (by rw [c_4]; decide) (by rw [c_4]; decide) (by rw [c_4]; rfl) (by decide) ?_
    refine lv_aload_n hx hb dX0_told_60 rfl (lv_at hl 0 rfl) ?_
    refine q_cv [] (rest := []) ⟨hx, hb, hml, hown, hts⟩ (mX0_howManyLegal l dC dI h qb qj qm qw qr cA n rec lim fb fj fm fw fr (by omega)) gX0_told_X0_howManyLegal rfl rfl rfl hdX0_howManyLegal ⟨Nat.le_of_ble_eq_true rfl, Nat.le_of_ble_eq_true rfl⟩ rfl hK hP rfl rfl hl.1 rfl (Nat.le_of_ble_eq_true rfl) dX0_told_61 ⟨Nat.zero_le _, Nat.zero_le _⟩ ?_
    exact q_ri hx hb hr hlk (by simp [a0Told, c_1, c_2, c_3, c_4]) dX0_told_64
  by_cases c_5 : w = 4
  · skip
    refine lv_tableIn (tgt := 65) hx hb dX0_told_1 (by rw [c_5]; decide) (by rw [c_5]; decide) (by rw [c_5]; rfl) (by decide) ?_
    refine lv_aload_n hx hb dX0_told_65 rfl (lv_at hl 0 rfl) ?_
    refine va_get (D := (dC, dI)) (ci := 0) (v := .int rec) (C := RX0) (T := TX0) (N := 8) hx hb hts hin hown hK hP 0 rfl rfl 1 (by decide) hf_13 (fun _ h9 => h9) rfl dX0_told_66 ?_
    exact q_ri hx hb hr hlk (by simp [a0Told, c_1, c_2, c_3, c_4, c_5]) dX0_told_69
  by_cases c_6 : w = 5
  · skip
    refine lv_tableIn (tgt := 70) hx hb dX0_told_1 (by rw [c_6]; decide) (by rw [c_6]; decide) (by rw [c_6]; rfl) (by decide) ?_
    refine lv_aload_n hx hb dX0_told_70 rfl (lv_at hl 0 rfl) ?_
    refine va_get (D := (dC, dI)) (ci := 0) (v := .int lim) (C := RX0) (T := TX0) (N := 8) hx hb hts hin hown hK hP 0 rfl rfl 2 (by decide) hf_16 (fun _ h9 => h9) rfl dX0_told_71 ?_
    exact q_ri hx hb hr hlk (by simp [a0Told, c_1, c_2, c_3, c_4, c_5, c_6]) dX0_told_74
  refine lv_tableOut (tgt := 75) hx hb dX0_told_1 (tOut6 c_1 c_2 c_3 c_4 c_5 c_6) (by decide) ?_
  refine lv_sipush (v := (-1000)) hx hb dX0_told_75 (by decide) ?_
  exact q_ri hx hb hr hlk (by simp [a0Told, c_1, c_2, c_3, c_4, c_5, c_6]) dX0_told_78
