def cmpV (v o : Int32) : Int32 := if v < o then 1 else if v = o then 2 else 4
def unfF (q : Nat → Bool) : Nat → Nat → Nat
  | 0, _ => 0
  | k + 1, i => if q i = true then 0 else unfF q k (i + 1) + 1
def mxU (q : Nat → Bool) : Nat → Nat
  | 0 => 0
  | i + 1 => if mxU q i < unfF q (6 - i) i then unfF q (6 - i) i else mxU q i
def btsU (f : Nat → Int32) (r i : Nat) : Bool := if f r = 0 then false else !anyB (fun e => fitv 3 0 (f e) (f r)) i
def tqB (M V : Nat → Nat → Int32) (lim w : Int32) (j r : Nat) : Bool := if w = 1 then true else if w = 2 then decide (M j r = 0) else lgl M V lim j r
def a1Told (J : Nat → Nat) (M V : Nat → Nat → Int32) (n : Nat) (rec lim w : Int32) : Int32 := if w = 0 then nI n else if w = 4 then rec else if w = 5 then lim else if inR w 1 3 = true then nI (sumN (fun t => cntB (tqB M V lim w t) (J t)) n) else -1000
theorem inR_jmp {n : Nat} {x : Int32} (hn : n ≤ 8) : inR x 0 (nI n - 1) = jmp (nI n) x := by
  unfold inR jmp
  by_cases h : x < 0
  · simp [h]
  · have e : (nI n - 1 < x) ↔ nI n ≤ x := by
      obtain ⟨j, hj, rfl⟩ := nI_of h
      rw [nI_leI (by omega) hj, Int32.lt_iff_toInt_lt, show (nI n - 1).toInt = (n : Int) - 1 from pk_sub_toInt (b := 1) (by omega) (by decide), nI_toInt hj]
      omega
    simp [h, e]
theorem inR_rnd {x : Int32} : inR x 0 5 = rnd x := by
  unfold inR rnd
  have e : ((5 : Int32) < x) ↔ 6 ≤ x := by
    rw [Int32.lt_iff_toInt_lt, Int32.le_iff_toInt_le, show (5 : Int32).toInt = 5 from rfl, show (6 : Int32).toInt = 6 from rfl]
    omega
  simp [e]
theorem inR_hwo {x : Int32} : inR x 0 5 = hwo x := rfl
theorem inR_wht {x : Int32} : inR x 0 1 = wht x := by
  unfold inR wht
  have e0 : (x = 0) ↔ x.toInt = 0 := by rw [← Int32.toInt_inj]; rfl
  have e1 : (x = 1) ↔ x.toInt = 1 := by rw [← Int32.toInt_inj]; rfl
  have e2 : (x < 0) ↔ x.toInt < 0 := by rw [Int32.lt_iff_toInt_lt]; rfl
  have e3 : (1 < x) ↔ 1 < x.toInt := by rw [Int32.lt_iff_toInt_lt]; rfl
  by_cases a : x.toInt < 0
  · rw [if_pos (e2.mpr a), if_neg (fun q => by rw [e0] at q; omega), if_neg (fun q => by rw [e1] at q; omega)]
  · rw [if_neg (fun q => a (e2.mp q))]
    by_cases b : 1 < x.toInt
    · rw [if_pos (e3.mpr b), if_neg (fun q => by rw [e0] at q; omega), if_neg (fun q => by rw [e1] at q; omega)]
    · rw [if_neg (fun q => b (e3.mp q))]
      by_cases d : x.toInt = 0
      · rw [if_pos (e0.mpr d)]
      · rw [if_neg (fun q => d (e0.mp q)), if_pos (e1.mpr (by omega))]
theorem nI_five {k : Nat} (hk : k < 6) : (nI k = 5) ↔ k = 5 := nI_eq (b := 5) (by omega) (by decide)
theorem fit_nf {ft : Nat → Int32} (hT : ft 0 = 1 ∧ ft 1 = 3 ∧ ft 2 = 4 ∧ ft 3 = 6 ∧ ft 4 = 2 ∧ ft 5 = 5) {k : Nat} (hk : k < 6) {v o : Int32} : (!decide (ft k &&& cmpV v o = 0)) = nfit (nI k) v o := by
  obtain ⟨t0, t1, t2, t3, t4, t5⟩ := hT
  rcases Int32.lt_or_le v o with a | a
  · have b : ¬ v = o := fun q => by subst q; exact Int32.lt_irrefl a
    have e : cmpV v o = 1 := by simp [cmpV, a]
    have g : ¬ o < v := Int32.not_lt.mpr (Int32.le_of_lt a)
    have g2 : ¬ o ≤ v := Int32.not_le.mpr a
    have g3 : v ≤ o := Int32.le_of_lt a
    rw [e]
    rcases (show k = 0 ∨ k = 1 ∨ k = 2 ∨ k = 3 ∨ k = 4 ∨ k = 5 by omega) with rfl | rfl | rfl | rfl | rfl | rfl
    · rw [t0]; simp [nfit, a, nI_0] <;> decide
    · rw [t1, show nI 1 = 1 from rfl]; simp [nfit, g3] <;> decide
    · rw [t2, show nI 2 = 2 from rfl]; simp [nfit, g] <;> decide
    · rw [t3, show nI 3 = 3 from rfl]; simp [nfit, g2] <;> decide
    · rw [t4, show nI 4 = 4 from rfl]; simp [nfit, b] <;> decide
    · rw [t5, show nI 5 = 5 from rfl]; simp [nfit, b] <;> decide
  · have g : ¬ v < o := Int32.not_lt.mpr a
    by_cases b : v = o
    · subst b
      have e : cmpV v v = 2 := by simp [cmpV]
      rw [e]
      rcases (show k = 0 ∨ k = 1 ∨ k = 2 ∨ k = 3 ∨ k = 4 ∨ k = 5 by omega) with rfl | rfl | rfl | rfl | rfl | rfl
      · rw [t0]; simp [nfit, nI_0] <;> decide
      · rw [t1, show nI 1 = 1 from rfl]; simp [nfit] <;> decide
      · rw [t2, show nI 2 = 2 from rfl]; simp [nfit] <;> decide
      · rw [t3, show nI 3 = 3 from rfl]; simp [nfit] <;> decide
      · rw [t4, show nI 4 = 4 from rfl]; simp [nfit] <;> decide
      · rw [t5, show nI 5 = 5 from rfl]; simp [nfit] <;> decide
    · have e : cmpV v o = 4 := by simp [cmpV, b, g]
      have g2 : ¬ v ≤ o := fun q => b (Int32.le_antisymm q a)
      have g3 : o < v := Int32.not_le.mp g2
      rw [e]
      rcases (show k = 0 ∨ k = 1 ∨ k = 2 ∨ k = 3 ∨ k = 4 ∨ k = 5 by omega) with rfl | rfl | rfl | rfl | rfl | rfl
      · rw [t0]; simp [nfit, g, nI_0] <;> decide
      · rw [t1, show nI 1 = 1 from rfl]; simp [nfit, g2] <;> decide
      · rw [t2, show nI 2 = 2 from rfl]; simp [nfit, g3] <;> decide
      · rw [t3, show nI 3 = 3 from rfl]; simp [nfit, a] <;> decide
      · rw [t4, show nI 4 = 4 from rfl]; simp [nfit, b] <;> decide
      · rw [t5, show nI 5 = 5 from rfl]; simp [nfit, b] <;> decide
theorem qst_ask (n h w x v : Int32) : qst n h w x v = (ask n h w x && cde w v) := by simp [qst, ask, Bool.and_assoc]
theorem ask_j {n h w x : Int32} (q : ask n h w x = true) : jmp n x = true := by
  simp [ask] at q
  exact q.2.2
theorem ask_h {n h w x : Int32} (q : ask n h w x = true) : hwo h = true := by
  simp [ask] at q
  exact q.1
theorem aFits_ask (M V : Nat → Nat → Int32) (n h w x a b : Int32) : aFits M V n h w x a b = if ask n h w x && (rnd a && rnd b) then b2i (fitv h w (vlu M V w x.toNatClampNeg a.toNatClampNeg) (vlu M V w x.toNatClampNeg b.toNatClampNeg)) else -1000 := by simp [aFits, ask, Bool.and_assoc]
theorem unfF_eq {q : Nat → Bool} {i : Nat} (h : i < 6) : unfF q (6 - i) i = if q i = true then 0 else unfF q (6 - (i + 1)) (i + 1) + 1 := by
  rw [show 6 - i = (6 - (i + 1)) + 1 by omega]
  rfl
theorem unf_step {q : Nat → Bool} {f i : Nat} (hi : i < 6) (h : f ≤ i ∧ unfF q (6 - f) f = (i - f) + unfF q (6 - i) i) (c : q i = false) : f ≤ i + 1 ∧ unfF q (6 - f) f = (i + 1 - f) + unfF q (6 - (i + 1)) (i + 1) := by
  obtain ⟨a, b⟩ := h
  refine ⟨by omega, ?_⟩
  rw [b, unfF_eq hi]
  simp [c]
  omega
theorem unf_hit {q : Nat → Bool} {f i : Nat} (hi : i < 6) (h : f ≤ i ∧ unfF q (6 - f) f = (i - f) + unfF q (6 - i) i) (c : q i = true) : nI i - nI f = nI (unfF q (6 - f) f) := by
  obtain ⟨a, b⟩ := h
  rw [b, unfF_eq hi, pk_sub a]
  simp [c]
theorem unf_end {q : Nat → Bool} {f : Nat} (h : f ≤ 6 ∧ unfF q (6 - f) f = (6 - f) + unfF q (6 - 6) 6) : nI 6 - nI f = nI (unfF q (6 - f) f) := by
  obtain ⟨a, b⟩ := h
  rw [b, pk_sub a]
  rfl
theorem unfF_le (q : Nat → Bool) (k i : Nat) : unfF q k i ≤ k := by
  induction k generalizing i with
  | zero => exact Nat.le_refl 0
  | succ k ih =>
    have := ih (i + 1)
    simp only [unfF]
    split <;> omega
theorem mxU_le6 (q : Nat → Bool) (i : Nat) : mxU q i ≤ 6 := by
  induction i with
  | zero => exact Nat.zero_le 6
  | succ i ih =>
    have := unfF_le q (6 - i) i
    simp only [mxU]
    split <;> omega
theorem mxU_le {q : Nat → Bool} {i : Nat} (hi : i < 6) (c : nI (unfF q (6 - i) i) ≤ nI (mxU q i)) : nI (mxU q i) = nI (mxU q (i + 1)) := by
  have a := unfF_le q (6 - i) i
  have b := mxU_le6 q i
  rw [nI_leI (by omega) (by omega)] at c
  simp only [mxU]
  rw [if_neg (by omega)]
theorem mxU_gt {q : Nat → Bool} {i : Nat} (hi : i < 6) (c : ¬ nI (unfF q (6 - i) i) ≤ nI (mxU q i)) : nI (unfF q (6 - i) i) = nI (mxU q (i + 1)) := by
  have a := unfF_le q (6 - i) i
  have b := mxU_le6 q i
  rw [nI_leI (by omega) (by omega)] at c
  simp only [mxU]
  rw [if_pos (by omega)]
theorem mx_most (q : Nat → Bool) : mxU q 6 = mostB q 6 := by
  cases h0 : q 0 <;> cases h1 : q 1 <;> cases h2 : q 2 <;> cases h3 : q 3 <;> cases h4 : q 4 <;> cases h5 : q 5 <;> simp [mxU, unfF, mostB, lenB, h0, h1, h2, h3, h4, h5]
theorem grt_1 {g : Nat → Bool} {f : Nat → Int32} {b : Int32} {i : Nat} (c : g i = false) : grtU g f b i = grtU g f b (i + 1) := by
  rw [grtU.eq_2, if_neg (by rw [c]; decide)]
theorem grt_2 {g : Nat → Bool} {f : Nat → Int32} {b : Int32} {i : Nat} (c : g i = true) (d : b ≤ f i) : grtU g f b i = grtU g f b (i + 1) := by
  rw [grtU.eq_2, if_pos c, if_neg (Int32.not_lt.mpr d)]
theorem grt_3 {g : Nat → Bool} {f : Nat → Int32} {b : Int32} {i : Nat} (c : g i = true) (d : ¬ b ≤ f i) (e : f i ≤ grtU g f b i) : grtU g f b i = grtU g f b (i + 1) := by
  rw [grtU.eq_2, if_pos c, if_pos (Int32.not_le.mp d), if_neg (Int32.not_lt.mpr e)]
theorem grt_4 {g : Nat → Bool} {f : Nat → Int32} {b : Int32} {i : Nat} (c : g i = true) (d : ¬ b ≤ f i) (e : ¬ f i ≤ grtU g f b i) : f i = grtU g f b (i + 1) := by
  rw [grtU.eq_2, if_pos c, if_pos (Int32.not_le.mp d), if_pos (Int32.not_le.mp e)]
theorem btsU_succ (f : Nat → Int32) (r i : Nat) : btsU f r (i + 1) = (btsU f r i && !fitv 3 0 (f i) (f r)) := by
  unfold btsU
  split
  · rfl
  · simp [anyB]
theorem pm1_lt {f : Nat} (hf : f < 6) : nI (6 - (6 - f)) + (-1) < nI f := by
  rcases (show f = 0 ∨ f = 1 ∨ f = 2 ∨ f = 3 ∨ f = 4 ∨ f = 5 by omega) with rfl | rfl | rfl | rfl | rfl | rfl <;> decide
theorem hdX1_isIn : yX1_isIn.cls ≠ "java/lang/invoke/MethodHandle" ∧ yX1_isIn.cls ≠ "java/lang/invoke/VarHandle" ∧ (parseMethodDescriptor yX1_isIn.desc).map (fun d => d.parameters.length) = some 3 := by decide +kernel
set_option maxHeartbeats 4000000 in
set_option maxRecDepth 100000 in
theorem mX1_isIn (l : Launch) (x : Int32) (a : Int32) (b : Int32) : Met l yX1_isIn wsX1_isIn ({ frames := 0, cells := 0, slots := 0, locals := 0 }) (va_Pc [.int x, .int a, .int b] (fun _ => True)) (QcRead (b2i (inR x a b))) 0 0 (fun _ => False) := by
  refine Met.ofW (cc := cX1_isIn) (maxL := 3) (ret := (some .boolean)) (by decide) rfl ?_
  intro p e s m args below meth c s₁ B hml hv
  obtain ⟨rfl, -⟩ := hv
  have hx := B.exec
  have hb := B.bytes
  have hr := B.returns
  have hts := atoms_spec (ws := wsX1_isIn) B.pre
  have hown : s.vm.findClass RX1 = some m.cls := findClass_of_methodNamed B.named
  have hlk := B.notSynchronized
  have hl := lv_entry ([.int x, .int a, .int b]) (n := 3) (Nat.le_of_ble_eq_true rfl)
  rw [lg_entry_eq]
  generalize (lg_sl ([.int x, .int a, .int b]) ++ List.replicate (3 - (lg_sl ([.int x, .int a, .int b])).length) Slot.unset).toArray = ls at hl ⊢
  have hl : lv_has ls 3 [(0, .int x), (1, .int a), (2, .int b)] := hl
  refine lv_iload_n hx hb dX1_isIn_0 rfl (lv_at hl 0 rfl) ?_
  refine lv_iload_n hx hb dX1_isIn_1 rfl (lv_at hl 1 rfl) ?_
  refine lv_icmp_lt (tgt := 14) hx hb dX1_isIn_2 (by decide) (fun c_1 => ?_) (fun c_1 => ?_)
  · skip
    refine lv_iconst (v := 0) hx hb dX1_isIn_14 (by decide) ?_
    exact q_rb hx hb hr hlk (by simp [inR, b2i, c_1]) dX1_isIn_15
  · skip
    refine lv_iload_n hx hb dX1_isIn_5 rfl (lv_at hl 0 rfl) ?_
    refine lv_iload_n hx hb dX1_isIn_6 rfl (lv_at hl 2 rfl) ?_
    refine lv_icmp_gt (tgt := 14) hx hb dX1_isIn_7 (by decide) (fun c_2 => ?_) (fun c_2 => ?_)
    · skip
      refine lv_iconst (v := 0) hx hb dX1_isIn_14 (by decide) ?_
      exact q_rb hx hb hr hlk (by simp [inR, b2i, c_1, c_2]) dX1_isIn_15
    · skip
      refine lv_iconst (v := 1) hx hb dX1_isIn_10 (by decide) ?_
      refine lv_goto (tgt := 15) hx hb dX1_isIn_11 (by decide) ?_
      exact q_rb hx hb hr hlk (by simp [inR, b2i, c_1, c_2]) dX1_isIn_15

theorem hdX1_isJumper : yX1_isJumper.cls = RX1 ∧ yX1_isJumper.cls ≠ "java/lang/invoke/MethodHandle" ∧ yX1_isJumper.cls ≠ "java/lang/invoke/VarHandle" ∧ (parseMethodDescriptor yX1_isJumper.desc).map (fun d => d.parameters.length) = some 1 := by decide +kernel
set_option maxHeartbeats 4000000 in
set_option maxRecDepth 100000 in
theorem mX1_isJumper (l : Launch) (dC : Nat → ClassId) (dI : Nat → Nat → Nat) (h qb qj qm qw qt : Nat) (cA : ClassId) (n : Nat) (rec lim : Int32) (fb fj fm fw ft : Nat → Int32) (x : Int32) (hn : n ≤ 8) : Met l yX1_isJumper wsX1_isJumper ({ frames := 1, cells := 0, slots := 0, locals := 22 }) (va_Pc [.ref h, .int x] (fun U => va_P (dC, dI) vwCl (wY h qb qj qm qw qt cA (nI n) rec lim fb fj fm fw ft) U.heap ∧ va_K (dC, dI) vwCl [(cA, .int)] U)) (QcRead (b2i (jmp (nI n) x))) 0 0 (fun _ => False) := by
  refine Met.ofW (cc := cX1_isJumper) (maxL := 2) (ret := (some .boolean)) (by decide) rfl ?_
  intro p e s m args below meth c s₁ B hml hv
  obtain ⟨rfl, hP, hK⟩ := hv
  have hx := B.exec
  have hb := B.bytes
  have hr := B.returns
  have hts := atoms_spec (ws := wsX1_isJumper) B.pre
  have hown : s.vm.findClass RX1 = some m.cls := findClass_of_methodNamed B.named
  have hlk := B.notSynchronized
  have hin : ∀ w ∈ wsX10, w ∈ wsX1_isJumper := fun w h => List.mem_cons_of_mem _ (List.mem_append_right _ h)
  have hf_32 := hts (.fieldLink RX1 32 "JumpBoardModel" "jumpers" "I") (by decide +kernel)
  have hl := lv_entry ([.ref h, .int x]) (n := 2) (Nat.le_of_ble_eq_true rfl)
  rw [lg_entry_eq]
  generalize (lg_sl ([.ref h, .int x]) ++ List.replicate (2 - (lg_sl ([.ref h, .int x])).length) Slot.unset).toArray = ls at hl ⊢
  have hl : lv_has ls 2 [(0, .ref h), (1, .int x)] := hl
  refine lv_iload_n hx hb dX1_isJumper_0 rfl (lv_at hl 1 rfl) ?_
  refine lv_iconst (v := 0) hx hb dX1_isJumper_1 (by decide) ?_
  refine lv_aload_n hx hb dX1_isJumper_2 rfl (lv_at hl 0 rfl) ?_
  refine va_get (D := (dC, dI)) (ci := 1) (v := .int (nI n)) (C := RX1) (T := TX1) (N := 8) hx hb hts hin hown hK hP 0 rfl rfl 5 (by decide) hf_32 (fun _ h9 => h9) rfl dX1_isJumper_3 ?_
  refine lv_iconst (v := 1) hx hb dX1_isJumper_6 (by decide) ?_
  refine lv_isub hx hb dX1_isJumper_7 ?_
  refine q_cs [.int x, .int 0, .int ((nI n) - 1)] (rest := []) ⟨hx, hb, hml, hown, hts⟩ (mX1_isIn l x 0 ((nI n) - 1)) gX1_isJumper_X1_isIn rfl rfl rfl hdX1_isIn ⟨Nat.le_of_ble_eq_true rfl, Nat.le_of_ble_eq_true rfl⟩ rfl hl.1 rfl (Nat.le_of_ble_eq_true rfl) dX1_isJumper_8 ⟨Nat.zero_le _, Nat.zero_le _⟩ ?_
  exact q_rb hx hb hr hlk (by rw [inR_jmp hn]) dX1_isJumper_11

theorem hdX1_isRound : yX1_isRound.cls ≠ "java/lang/invoke/MethodHandle" ∧ yX1_isRound.cls ≠ "java/lang/invoke/VarHandle" ∧ (parseMethodDescriptor yX1_isRound.desc).map (fun d => d.parameters.length) = some 1 := by decide +kernel
set_option maxHeartbeats 4000000 in
set_option maxRecDepth 100000 in
theorem mX1_isRound (l : Launch) (x : Int32) : Met l yX1_isRound wsX1_isRound ({ frames := 1, cells := 0, slots := 0, locals := 22 }) (va_Pc [.int x] (fun _ => True)) (QcRead (b2i (rnd x))) 0 0 (fun _ => False) := by
  refine Met.ofW (cc := cX1_isRound) (maxL := 1) (ret := (some .boolean)) (by decide) rfl ?_
  intro p e s m args below meth c s₁ B hml hv
  obtain ⟨rfl, -⟩ := hv
  have hx := B.exec
  have hb := B.bytes
  have hr := B.returns
  have hts := atoms_spec (ws := wsX1_isRound) B.pre
  have hown : s.vm.findClass RX1 = some m.cls := findClass_of_methodNamed B.named
  have hlk := B.notSynchronized
  have hl := lv_entry ([.int x]) (n := 1) (Nat.le_of_ble_eq_true rfl)
  rw [lg_entry_eq]
  generalize (lg_sl ([.int x]) ++ List.replicate (1 - (lg_sl ([.int x])).length) Slot.unset).toArray = ls at hl ⊢
  have hl : lv_has ls 1 [(0, .int x)] := hl
  refine lv_iload_n hx hb dX1_isRound_0 rfl (lv_at hl 0 rfl) ?_
  refine lv_iconst (v := 0) hx hb dX1_isRound_1 (by decide) ?_
  refine lv_iconst (v := 5) hx hb dX1_isRound_2 (by decide) ?_
  refine q_cs [.int x, .int 0, .int 5] (rest := []) ⟨hx, hb, hml, hown, hts⟩ (mX1_isIn l x 0 5) gX1_isRound_X1_isIn rfl rfl rfl hdX1_isIn ⟨Nat.le_of_ble_eq_true rfl, Nat.le_of_ble_eq_true rfl⟩ rfl hl.1 rfl (Nat.le_of_ble_eq_true rfl) dX1_isRound_3 ⟨Nat.zero_le _, Nat.zero_le _⟩ ?_
  exact q_rb hx hb hr hlk (by rw [inR_rnd]) dX1_isRound_6

theorem hdX1_isCode : yX1_isCode.cls ≠ "java/lang/invoke/MethodHandle" ∧ yX1_isCode.cls ≠ "java/lang/invoke/VarHandle" ∧ (parseMethodDescriptor yX1_isCode.desc).map (fun d => d.parameters.length) = some 2 := by decide +kernel
set_option maxHeartbeats 4000000 in
set_option maxRecDepth 100000 in
theorem mX1_isCode (l : Launch) (w : Int32) (v : Int32) : Met l yX1_isCode wsX1_isCode ({ frames := 1, cells := 0, slots := 0, locals := 22 }) (va_Pc [.int w, .int v] (fun _ => True)) (QcRead (b2i (cde w v))) 0 0 (fun _ => False) := by
  refine Met.ofW (cc := cX1_isCode) (maxL := 2) (ret := (some .boolean)) (by decide) rfl ?_
  intro p e s m args below meth c s₁ B hml hv
  obtain ⟨rfl, -⟩ := hv
  have hx := B.exec
  have hb := B.bytes
  have hr := B.returns
  have hts := atoms_spec (ws := wsX1_isCode) B.pre
  have hown : s.vm.findClass RX1 = some m.cls := findClass_of_methodNamed B.named
  have hlk := B.notSynchronized
  have hl := lv_entry ([.int w, .int v]) (n := 2) (Nat.le_of_ble_eq_true rfl)
  rw [lg_entry_eq]
  generalize (lg_sl ([.int w, .int v]) ++ List.replicate (2 - (lg_sl ([.int w, .int v])).length) Slot.unset).toArray = ls at hl ⊢
  have hl : lv_has ls 2 [(0, .int w), (1, .int v)] := hl
  refine lv_iload_n hx hb dX1_isCode_0 rfl (lv_at hl 0 rfl) ?_
  refine lv_if_ne (tgt := 15) hx hb dX1_isCode_1 (by decide) (fun c_1 => ?_) (fun c_1 => ?_)
  · skip
    refine lv_iload_n hx hb dX1_isCode_15 rfl (lv_at hl 1 rfl) ?_
    refine lv_bipush (v := (-99)) hx hb dX1_isCode_16 (by decide) ?_
    refine lv_bipush (v := 100) hx hb dX1_isCode_18 (by decide) ?_
    refine q_cs [.int v, .int (-99), .int 100] (rest := []) ⟨hx, hb, hml, hown, hts⟩ (mX1_isIn l v (-99) 100) gX1_isCode_X1_isIn rfl rfl rfl hdX1_isIn ⟨Nat.le_of_ble_eq_true rfl, Nat.le_of_ble_eq_true rfl⟩ rfl hl.1 rfl (Nat.le_of_ble_eq_true rfl) dX1_isCode_20 ⟨Nat.zero_le _, Nat.zero_le _⟩ ?_
    exact q_rb hx hb hr hlk (by simp [cde, c_1]; rfl) dX1_isCode_23
  · skip
    refine lv_iload_n hx hb dX1_isCode_4 rfl (lv_at hl 1 rfl) ?_
    refine lv_iconst (v := 0) hx hb dX1_isCode_5 (by decide) ?_
    refine lv_sipush (v := 1200) hx hb dX1_isCode_6 (by decide) ?_
    refine q_cs [.int v, .int 0, .int 1200] (rest := []) ⟨hx, hb, hml, hown, hts⟩ (mX1_isIn l v 0 1200) gX1_isCode_X1_isIn rfl rfl rfl hdX1_isIn ⟨Nat.le_of_ble_eq_true rfl, Nat.le_of_ble_eq_true rfl⟩ rfl hl.1 rfl (Nat.le_of_ble_eq_true rfl) dX1_isCode_9 ⟨Nat.zero_le _, Nat.zero_le _⟩ ?_
    refine lv_goto (tgt := 23) hx hb dX1_isCode_12 (by decide) ?_
    exact q_rb hx hb hr hlk (by simp [cde, c_1]; rfl) dX1_isCode_23

theorem hdX1_none : yX1_none.cls ≠ "java/lang/invoke/MethodHandle" ∧ yX1_none.cls ≠ "java/lang/invoke/VarHandle" ∧ (parseMethodDescriptor yX1_none.desc).map (fun d => d.parameters.length) = some 1 := by decide +kernel
set_option maxHeartbeats 4000000 in
set_option maxRecDepth 100000 in
theorem mX1_none (l : Launch) (w : Int32) : Met l yX1_none wsX1_none ({ frames := 0, cells := 0, slots := 0, locals := 0 }) (va_Pc [.int w] (fun _ => True)) (QcRead (non w)) 0 0 (fun _ => False) := by
  refine Met.ofW (cc := cX1_none) (maxL := 1) (ret := (some .int)) (by decide) rfl ?_
  intro p e s m args below meth c s₁ B hml hv
  obtain ⟨rfl, -⟩ := hv
  have hx := B.exec
  have hb := B.bytes
  have hr := B.returns
  have hts := atoms_spec (ws := wsX1_none) B.pre
  have hown : s.vm.findClass RX1 = some m.cls := findClass_of_methodNamed B.named
  have hlk := B.notSynchronized
  have hl := lv_entry ([.int w]) (n := 1) (Nat.le_of_ble_eq_true rfl)
  rw [lg_entry_eq]
  generalize (lg_sl ([.int w]) ++ List.replicate (1 - (lg_sl ([.int w])).length) Slot.unset).toArray = ls at hl ⊢
  have hl : lv_has ls 1 [(0, .int w)] := hl
  refine lv_iload_n hx hb dX1_none_0 rfl (lv_at hl 0 rfl) ?_
  refine lv_if_ne (tgt := 8) hx hb dX1_none_1 (by decide) (fun c_1 => ?_) (fun c_1 => ?_)
  · skip
    refine lv_bipush (v := 100) hx hb dX1_none_8 (by decide) ?_
    exact q_ri hx hb hr hlk (by simp [non, c_1]) dX1_none_10
  · skip
    refine lv_iconst (v := 0) hx hb dX1_none_4 (by decide) ?_
    refine lv_goto (tgt := 10) hx hb dX1_none_5 (by decide) ?_
    exact q_ri hx hb hr hlk (by simp [non, c_1]) dX1_none_10

theorem hdX1_code : yX1_code.cls = RX1 ∧ yX1_code.cls ≠ "java/lang/invoke/MethodHandle" ∧ yX1_code.cls ≠ "java/lang/invoke/VarHandle" ∧ (parseMethodDescriptor yX1_code.desc).map (fun d => d.parameters.length) = some 3 := by decide +kernel
set_option maxHeartbeats 4000000 in
set_option maxRecDepth 100000 in
theorem mX1_code (l : Launch) (dC : Nat → ClassId) (dI : Nat → Nat → Nat) (h qb qj qm qw qt : Nat) (cA : ClassId) (n : Nat) (rec lim : Int32) (fb fj fm fw ft : Nat → Int32) (M : Nat → Nat → Int32) (V : Nat → Nat → Int32) (w : Int32) (j : Nat) (r : Nat) (hM : ∀ j r, j < 8 → r < 6 → (if nI r < fj j then fm (6 * j + r) else 0) = M j r) (hV : ∀ j r, j < 8 → r < 6 → (if nI r < fj j then fw (6 * j + r) else 100) = V j r) (hj : j < 8) (hr6 : r < 6) : Met l yX1_code wsX1_code ({ frames := 1, cells := 0, slots := 0, locals := 20 }) (va_Pc [.ref h, .int w, .int (nI j), .int (nI r)] (fun U => va_P (dC, dI) vwCl (wY h qb qj qm qw qt cA (nI n) rec lim fb fj fm fw ft) U.heap ∧ va_K (dC, dI) vwCl [(cA, .int)] U)) (QcRead (vlu M V w j r)) 0 0 (fun _ => False) := by
  refine Met.ofW (cc := cX1_code) (maxL := 4) (ret := (some .int)) (by decide) rfl ?_
  intro p e s m args below meth c s₁ B hml hv
  obtain ⟨rfl, hP, hK⟩ := hv
  have hx := B.exec
  have hb := B.bytes
  have hr := B.returns
  have hts := atoms_spec (ws := wsX1_code) B.pre
  have hown : s.vm.findClass RX1 = some m.cls := findClass_of_methodNamed B.named
  have hlk := B.notSynchronized
  have hin : ∀ w ∈ wsX10, w ∈ wsX1_code := fun w h => List.mem_cons_of_mem _ (List.mem_append_right _ h)
  have hf_13 := hts (.fieldLink RX1 13 "JumpBoardModel" "jumped" "[I") (by decide +kernel)
  have hf_16 := hts (.fieldLink RX1 16 "JumpBoardModel" "marks" "[I") (by decide +kernel)
  have hf_19 := hts (.fieldLink RX1 19 "JumpBoardModel" "winds" "[I") (by decide +kernel)
  have hl := lv_entry ([.ref h, .int w, .int (nI j), .int (nI r)]) (n := 4) (Nat.le_of_ble_eq_true rfl)
  rw [lg_entry_eq]
  generalize (lg_sl ([.ref h, .int w, .int (nI j), .int (nI r)]) ++ List.replicate (4 - (lg_sl ([.ref h, .int w, .int (nI j), .int (nI r)])).length) Slot.unset).toArray = ls at hl ⊢
  have hl : lv_has ls 4 [(0, .ref h), (1, .int w), (2, .int (nI j)), (3, .int (nI r))] := hl
  refine lv_iload_n hx hb dX1_code_0 rfl (lv_at hl 3 rfl) ?_
  refine lv_aload_n hx hb dX1_code_1 rfl (lv_at hl 0 rfl) ?_
  refine va_get (D := (dC, dI)) (ci := 1) (v := .ref qj) (C := RX1) (T := TX1) (N := 8) hx hb hts hin hown hK hP 0 rfl rfl 1 (by decide) hf_13 (fun _ h9 => h9) rfl dX1_code_2 ?_
  refine lv_iload_n hx hb dX1_code_5 rfl (lv_at hl 2 rfl) ?_
  refine q_ald (n := 8) (k := j) hx hb hK hP 2 0 rfl rfl (by omega) (by decide) dX1_code_6 ?_
  refine lv_icmp_lt (tgt := 15) hx hb dX1_code_7 (by decide) (fun c_1 => ?_) (fun c_1 => ?_)
  · skip
    refine lv_iload_n hx hb dX1_code_15 rfl (lv_at hl 1 rfl) ?_
    refine lv_if_ne (tgt := 33) hx hb dX1_code_16 (by decide) (fun c_2 => ?_) (fun c_2 => ?_)
    · skip
      refine lv_aload_n hx hb dX1_code_33 rfl (lv_at hl 0 rfl) ?_
      refine va_get (D := (dC, dI)) (ci := 1) (v := .ref qw) (C := RX1) (T := TX1) (N := 8) hx hb hts hin hown hK hP 0 rfl rfl 3 (by decide) hf_19 (fun _ h9 => h9) rfl dX1_code_34 ?_
      refine lv_bipush (v := 6) hx hb dX1_code_37 (by decide) ?_
      refine lv_iload_n hx hb dX1_code_39 rfl (lv_at hl 2 rfl) ?_
      refine lv_imul hx hb dX1_code_40 ?_
      refine lv_iload_n hx hb dX1_code_41 rfl (lv_at hl 3 rfl) ?_
      refine lv_iadd hx hb dX1_code_42 ?_
      refine q_top (y := nI (6 * j + r)) (by exact nI_6mul j r) ?_
      refine q_ald (n := 48) (k := (6 * j + r)) hx hb hK hP 4 0 rfl rfl (by omega) (by decide) dX1_code_43 ?_
      exact q_ri hx hb hr hlk (by rw [vlu, ← hM j r hj hr6, ← hV j r hj hr6, if_pos c_1, if_pos c_1]; simp [c_1, c_2]) dX1_code_44
    · skip
      refine lv_aload_n hx hb dX1_code_19 rfl (lv_at hl 0 rfl) ?_
      refine va_get (D := (dC, dI)) (ci := 1) (v := .ref qm) (C := RX1) (T := TX1) (N := 8) hx hb hts hin hown hK hP 0 rfl rfl 2 (by decide) hf_16 (fun _ h9 => h9) rfl dX1_code_20 ?_
      refine lv_bipush (v := 6) hx hb dX1_code_23 (by decide) ?_
      refine lv_iload_n hx hb dX1_code_25 rfl (lv_at hl 2 rfl) ?_
      refine lv_imul hx hb dX1_code_26 ?_
      refine lv_iload_n hx hb dX1_code_27 rfl (lv_at hl 3 rfl) ?_
      refine lv_iadd hx hb dX1_code_28 ?_
      refine q_top (y := nI (6 * j + r)) (by exact nI_6mul j r) ?_
      refine q_ald (n := 48) (k := (6 * j + r)) hx hb hK hP 3 0 rfl rfl (by omega) (by decide) dX1_code_29 ?_
      refine lv_goto (tgt := 44) hx hb dX1_code_30 (by decide) ?_
      exact q_ri hx hb hr hlk (by rw [vlu, ← hM j r hj hr6, ← hV j r hj hr6, if_pos c_1, if_pos c_1]; simp [c_1, c_2]) dX1_code_44
  · skip
    refine lv_iload_n hx hb dX1_code_10 rfl (lv_at hl 1 rfl) ?_
    refine q_cs [.int w] (rest := []) ⟨hx, hb, hml, hown, hts⟩ (mX1_none l w) gX1_code_X1_none rfl rfl rfl hdX1_none ⟨Nat.le_of_ble_eq_true rfl, Nat.le_of_ble_eq_true rfl⟩ rfl hl.1 rfl (Nat.le_of_ble_eq_true rfl) dX1_code_11 ⟨Nat.zero_le _, Nat.zero_le _⟩ ?_
    exact q_ri hx hb hr hlk (by rw [vlu, ← hM j r hj hr6, ← hV j r hj hr6, if_neg c_1, if_neg c_1]; rfl) dX1_code_14

theorem hdX1_fit : yX1_fit.cls = RX1 ∧ yX1_fit.cls ≠ "java/lang/invoke/MethodHandle" ∧ yX1_fit.cls ≠ "java/lang/invoke/VarHandle" ∧ (parseMethodDescriptor yX1_fit.desc).map (fun d => d.parameters.length) = some 4 := by decide +kernel
set_option maxHeartbeats 4000000 in
set_option maxRecDepth 100000 in
theorem mX1_fit (l : Launch) (dC : Nat → ClassId) (dI : Nat → Nat → Nat) (h qb qj qm qw qt : Nat) (cA : ClassId) (n : Nat) (rec lim : Int32) (fb fj fm fw ft : Nat → Int32) (k : Nat) (w : Int32) (v : Int32) (o : Int32) (hT : ft 0 = 1 ∧ ft 1 = 3 ∧ ft 2 = 4 ∧ ft 3 = 6 ∧ ft 4 = 2 ∧ ft 5 = 5) (hk : k < 6) : Met l yX1_fit wsX1_fit ({ frames := 1, cells := 0, slots := 0, locals := 20 }) (va_Pc [.ref h, .int (nI k), .int w, .int v, .int o] (fun U => va_P (dC, dI) vwCl (wY h qb qj qm qw qt cA (nI n) rec lim fb fj fm fw ft) U.heap ∧ va_K (dC, dI) vwCl [(cA, .int)] U)) (QcRead (b2i (fitv (nI k) w v o))) 0 0 (fun _ => False) := by
  refine Met.ofW (cc := cX1_fit) (maxL := 6) (ret := (some .boolean)) (by decide) rfl ?_
  intro p e s m args below meth c s₁ B hml hv
  obtain ⟨rfl, hP, hK⟩ := hv
  have hx := B.exec
  have hb := B.bytes
  have hr := B.returns
  have hts := atoms_spec (ws := wsX1_fit) B.pre
  have hown : s.vm.findClass RX1 = some m.cls := findClass_of_methodNamed B.named
  have hlk := B.notSynchronized
  have hin : ∀ w ∈ wsX10, w ∈ wsX1_fit := fun w h => List.mem_cons_of_mem _ (List.mem_append_right _ h)
  have hf_22 := hts (.fieldLink RX1 22 "JumpBoardModel" "takes" "[I") (by decide +kernel)
  have hl := lv_entry ([.ref h, .int (nI k), .int w, .int v, .int o]) (n := 6) (Nat.le_of_ble_eq_true rfl)
  rw [lg_entry_eq]
  generalize (lg_sl ([.ref h, .int (nI k), .int w, .int v, .int o]) ++ List.replicate (6 - (lg_sl ([.ref h, .int (nI k), .int w, .int v, .int o])).length) Slot.unset).toArray = ls at hl ⊢
  have hl : lv_has ls 6 [(0, .ref h), (1, .int (nI k)), (2, .int w), (3, .int v), (4, .int o)] := hl
  refine lv_iload_n hx hb dX1_fit_0 rfl (lv_at hl 3 rfl) ?_
  refine lv_iload_n hx hb dX1_fit_1 rfl (lv_at hl 2 rfl) ?_
  refine q_cs [.int w] (rest := [.int v]) ⟨hx, hb, hml, hown, hts⟩ (mX1_none l w) gX1_fit_X1_none rfl rfl rfl hdX1_none ⟨Nat.le_of_ble_eq_true rfl, Nat.le_of_ble_eq_true rfl⟩ rfl hl.1 rfl (Nat.le_of_ble_eq_true rfl) dX1_fit_2 ⟨Nat.zero_le _, Nat.zero_le _⟩ ?_
  refine lv_icmp_eq (tgt := 17) hx hb dX1_fit_5 (by decide) (fun c_1 => ?_) (fun c_1 => ?_)
  · skip
    refine lv_iload_n hx hb dX1_fit_17 rfl (lv_at hl 1 rfl) ?_
    refine lv_iconst (v := 5) hx hb dX1_fit_18 (by decide) ?_
    refine lv_icmp_ne (tgt := 26) hx hb dX1_fit_19 (by decide) (fun c_2 => ?_) (fun c_2 => ?_)
    · skip
      refine lv_iconst (v := 0) hx hb dX1_fit_26 (by decide) ?_
      exact q_rb hx hb hr hlk (by rw [fitv]; simp [b2i, c_1, c_2, nI_five hk] <;> simp_all [nI_five hk]) dX1_fit_27
    · skip
      refine lv_iconst (v := 1) hx hb dX1_fit_22 (by decide) ?_
      refine lv_goto (tgt := 27) hx hb dX1_fit_23 (by decide) ?_
      exact q_rb hx hb hr hlk (by rw [fitv]; simp [b2i, c_1, c_2, nI_five hk] <;> simp_all [nI_five hk]) dX1_fit_27
  · skip
    refine lv_iload hx hb dX1_fit_8 (lv_at hl 4 rfl) ?_
    refine lv_iload_n hx hb dX1_fit_10 rfl (lv_at hl 2 rfl) ?_
    refine q_cs [.int w] (rest := [.int o]) ⟨hx, hb, hml, hown, hts⟩ (mX1_none l w) gX1_fit_X1_none rfl rfl rfl hdX1_none ⟨Nat.le_of_ble_eq_true rfl, Nat.le_of_ble_eq_true rfl⟩ rfl hl.1 rfl (Nat.le_of_ble_eq_true rfl) dX1_fit_11 ⟨Nat.zero_le _, Nat.zero_le _⟩ ?_
    refine lv_icmp_ne (tgt := 28) hx hb dX1_fit_14 (by decide) (fun c_3 => ?_) (fun c_3 => ?_)
    · skip
      refine lv_iload_n hx hb dX1_fit_28 rfl (lv_at hl 3 rfl) ?_
      refine lv_iload hx hb dX1_fit_29 (lv_at hl 4 rfl) ?_
      refine q_jn (pj := 49) (v := cmpV v o) (rest := []) ?_ (fun J => ?_)
      rotate_left
      · skip
        refine lv_icmp_ge (tgt := 38) hx hb dX1_fit_31 (by decide) (fun c_4 => ?_) (fun c_4 => ?_)
        · skip
          refine lv_iload_n hx hb dX1_fit_38 rfl (lv_at hl 3 rfl) ?_
          refine lv_iload hx hb dX1_fit_39 (lv_at hl 4 rfl) ?_
          refine lv_icmp_ne (tgt := 48) hx hb dX1_fit_41 (by decide) (fun c_5 => ?_) (fun c_5 => ?_)
          · skip
            refine lv_iconst (v := 4) hx hb dX1_fit_48 (by decide) ?_
            exact q_top (by simp [cmpV, c_1, c_3, c_4, c_5]) J
          · skip
            refine lv_iconst (v := 2) hx hb dX1_fit_44 (by decide) ?_
            refine lv_goto (tgt := 49) hx hb dX1_fit_45 (by decide) ?_
            exact q_top (by simp [cmpV, c_1, c_3, c_4, c_5]) J
        · skip
          refine lv_iconst (v := 1) hx hb dX1_fit_34 (by decide) ?_
          refine lv_goto (tgt := 49) hx hb dX1_fit_35 (by decide) ?_
          exact q_top (by simp [cmpV, c_1, c_3, c_4]) J
      refine lv_istore (lv' := [(5, .int (cmpV v o)), (0, .ref h), (1, .int (nI k)), (2, .int w), (3, .int v), (4, .int o)]) hx hb dX1_fit_49 hl (by decide) rfl (fun ls hl => ?_)
      refine lv_aload_n hx hb dX1_fit_51 rfl (lv_at hl 1 rfl) ?_
      refine va_get (D := (dC, dI)) (ci := 1) (v := .ref qt) (C := RX1) (T := TX1) (N := 8) hx hb hts hin hown hK hP 0 rfl rfl 4 (by decide) hf_22 (fun _ h9 => h9) rfl dX1_fit_52 ?_
      refine lv_iload_n hx hb dX1_fit_55 rfl (lv_at hl 2 rfl) ?_
      refine q_ald (n := 6) (k := k) hx hb hK hP 5 0 rfl rfl (by omega) (by decide) dX1_fit_56 ?_
      refine lv_iload hx hb dX1_fit_57 (lv_at hl 0 rfl) ?_
      refine lv_iand hx hb dX1_fit_59 ?_
      refine lv_if_eq (tgt := 67) hx hb dX1_fit_60 (by decide) (fun c_6 => ?_) (fun c_6 => ?_)
      · skip
        refine lv_iconst (v := 0) hx hb dX1_fit_67 (by decide) ?_
        exact q_rb hx hb hr hlk (by rw [fitv, if_neg c_1, if_neg c_3, ← fit_nf hT hk]; simp [b2i, c_1, c_3, c_6]) dX1_fit_68
      · skip
        refine lv_iconst (v := 1) hx hb dX1_fit_63 (by decide) ?_
        refine lv_goto (tgt := 68) hx hb dX1_fit_64 (by decide) ?_
        exact q_rb hx hb hr hlk (by rw [fitv, if_neg c_1, if_neg c_3, ← fit_nf hT hk]; simp [b2i, c_1, c_3, c_6]) dX1_fit_68
    · skip
      refine lv_iload_n hx hb dX1_fit_17 rfl (lv_at hl 1 rfl) ?_
      refine lv_iconst (v := 5) hx hb dX1_fit_18 (by decide) ?_
      refine lv_icmp_ne (tgt := 26) hx hb dX1_fit_19 (by decide) (fun c_7 => ?_) (fun c_7 => ?_)
      · skip
        refine lv_iconst (v := 0) hx hb dX1_fit_26 (by decide) ?_
        exact q_rb hx hb hr hlk (by rw [fitv]; simp [b2i, c_1, c_3, c_7, nI_five hk] <;> simp_all [nI_five hk]) dX1_fit_27
      · skip
        refine lv_iconst (v := 1) hx hb dX1_fit_22 (by decide) ?_
        refine lv_goto (tgt := 27) hx hb dX1_fit_23 (by decide) ?_
        exact q_rb hx hb hr hlk (by rw [fitv]; simp [b2i, c_1, c_3, c_7, nI_five hk] <;> simp_all [nI_five hk]) dX1_fit_27

theorem hdX1_isAsked : yX1_isAsked.cls = RX1 ∧ yX1_isAsked.cls ≠ "java/lang/invoke/MethodHandle" ∧ yX1_isAsked.cls ≠ "java/lang/invoke/VarHandle" ∧ (parseMethodDescriptor yX1_isAsked.desc).map (fun d => d.parameters.length) = some 3 := by decide +kernel
set_option maxHeartbeats 4000000 in
set_option maxRecDepth 100000 in
theorem mX1_isAsked (l : Launch) (dC : Nat → ClassId) (dI : Nat → Nat → Nat) (h qb qj qm qw qt : Nat) (cA : ClassId) (n : Nat) (rec lim : Int32) (fb fj fm fw ft : Nat → Int32) (k : Int32) (w : Int32) (x : Int32) (hn : n ≤ 8) : Met l yX1_isAsked wsX1_isAsked ({ frames := 2, cells := 0, slots := 0, locals := 43 }) (va_Pc [.ref h, .int k, .int w, .int x] (fun U => va_P (dC, dI) vwCl (wY h qb qj qm qw qt cA (nI n) rec lim fb fj fm fw ft) U.heap ∧ va_K (dC, dI) vwCl [(cA, .int)] U)) (QcRead (b2i (ask (nI n) k w x))) 0 0 (fun _ => False) := by
  refine Met.ofW (cc := cX1_isAsked) (maxL := 4) (ret := (some .boolean)) (by decide) rfl ?_
  intro p e s m args below meth c s₁ B hml hv
  obtain ⟨rfl, hP, hK⟩ := hv
  have hx := B.exec
  have hb := B.bytes
  have hr := B.returns
  have hts := atoms_spec (ws := wsX1_isAsked) B.pre
  have hown : s.vm.findClass RX1 = some m.cls := findClass_of_methodNamed B.named
  have hlk := B.notSynchronized
  have hl := lv_entry ([.ref h, .int k, .int w, .int x]) (n := 4) (Nat.le_of_ble_eq_true rfl)
  rw [lg_entry_eq]
  generalize (lg_sl ([.ref h, .int k, .int w, .int x]) ++ List.replicate (4 - (lg_sl ([.ref h, .int k, .int w, .int x])).length) Slot.unset).toArray = ls at hl ⊢
  have hl : lv_has ls 4 [(0, .ref h), (1, .int k), (2, .int w), (3, .int x)] := hl
  refine lv_iload_n hx hb dX1_isAsked_0 rfl (lv_at hl 1 rfl) ?_
  refine lv_iconst (v := 0) hx hb dX1_isAsked_1 (by decide) ?_
  refine lv_iconst (v := 5) hx hb dX1_isAsked_2 (by decide) ?_
  refine q_cs [.int k, .int 0, .int 5] (rest := []) ⟨hx, hb, hml, hown, hts⟩ (mX1_isIn l k 0 5) gX1_isAsked_X1_isIn rfl rfl rfl hdX1_isIn ⟨Nat.le_of_ble_eq_true rfl, Nat.le_of_ble_eq_true rfl⟩ rfl hl.1 rfl (Nat.le_of_ble_eq_true rfl) dX1_isAsked_3 ⟨Nat.zero_le _, Nat.zero_le _⟩ ?_
  refine lv_if_eq (tgt := 30) hx hb dX1_isAsked_6 (by decide) (fun c_1 => ?_) (fun c_1 => ?_)
  · skip
    have c_1 : (inR k 0 5) = false := b2i_0 c_1
    refine lv_iconst (v := 0) hx hb dX1_isAsked_30 (by decide) ?_
    exact q_rb hx hb hr hlk (by simp_all [ask, b2i, inR_hwo, inR_wht]) dX1_isAsked_31
  · skip
    have c_1 : (inR k 0 5) = true := b2i_n c_1
    refine lv_iload_n hx hb dX1_isAsked_9 rfl (lv_at hl 2 rfl) ?_
    refine lv_iconst (v := 0) hx hb dX1_isAsked_10 (by decide) ?_
    refine lv_iconst (v := 1) hx hb dX1_isAsked_11 (by decide) ?_
    refine q_cs [.int w, .int 0, .int 1] (rest := []) ⟨hx, hb, hml, hown, hts⟩ (mX1_isIn l w 0 1) gX1_isAsked_X1_isIn rfl rfl rfl hdX1_isIn ⟨Nat.le_of_ble_eq_true rfl, Nat.le_of_ble_eq_true rfl⟩ rfl hl.1 rfl (Nat.le_of_ble_eq_true rfl) dX1_isAsked_12 ⟨Nat.zero_le _, Nat.zero_le _⟩ ?_
    refine lv_if_eq (tgt := 30) hx hb dX1_isAsked_15 (by decide) (fun c_2 => ?_) (fun c_2 => ?_)
    · skip
      have c_2 : (inR w 0 1) = false := b2i_0 c_2
      refine lv_iconst (v := 0) hx hb dX1_isAsked_30 (by decide) ?_
      exact q_rb hx hb hr hlk (by simp_all [ask, b2i, inR_hwo, inR_wht]) dX1_isAsked_31
    · skip
      have c_2 : (inR w 0 1) = true := b2i_n c_2
      refine lv_aload_n hx hb dX1_isAsked_18 rfl (lv_at hl 0 rfl) ?_
      refine lv_iload_n hx hb dX1_isAsked_19 rfl (lv_at hl 3 rfl) ?_
      refine q_cv [.int x] (rest := []) ⟨hx, hb, hml, hown, hts⟩ (mX1_isJumper l dC dI h qb qj qm qw qt cA n rec lim fb fj fm fw ft x (by omega)) gX1_isAsked_X1_isJumper rfl rfl rfl hdX1_isJumper ⟨Nat.le_of_ble_eq_true rfl, Nat.le_of_ble_eq_true rfl⟩ rfl hK hP rfl rfl hl.1 rfl (Nat.le_of_ble_eq_true rfl) dX1_isAsked_20 ⟨Nat.zero_le _, Nat.zero_le _⟩ ?_
      refine lv_if_eq (tgt := 30) hx hb dX1_isAsked_23 (by decide) (fun c_3 => ?_) (fun c_3 => ?_)
      · skip
        have c_3 : (jmp (nI n) x) = false := b2i_0 c_3
        refine lv_iconst (v := 0) hx hb dX1_isAsked_30 (by decide) ?_
        exact q_rb hx hb hr hlk (by simp_all [ask, b2i, inR_hwo, inR_wht]) dX1_isAsked_31
      · skip
        have c_3 : (jmp (nI n) x) = true := b2i_n c_3
        refine lv_iconst (v := 1) hx hb dX1_isAsked_26 (by decide) ?_
        refine lv_goto (tgt := 31) hx hb dX1_isAsked_27 (by decide) ?_
        exact q_rb hx hb hr hlk (by simp_all [ask, b2i, inR_hwo, inR_wht]) dX1_isAsked_31

theorem hdX1_isAskedOf : yX1_isAskedOf.cls = RX1 ∧ yX1_isAskedOf.cls ≠ "java/lang/invoke/MethodHandle" ∧ yX1_isAskedOf.cls ≠ "java/lang/invoke/VarHandle" ∧ (parseMethodDescriptor yX1_isAskedOf.desc).map (fun d => d.parameters.length) = some 4 := by decide +kernel
set_option maxHeartbeats 4000000 in
set_option maxRecDepth 100000 in
theorem mX1_isAskedOf (l : Launch) (dC : Nat → ClassId) (dI : Nat → Nat → Nat) (h qb qj qm qw qt : Nat) (cA : ClassId) (n : Nat) (rec lim : Int32) (fb fj fm fw ft : Nat → Int32) (k : Int32) (w : Int32) (x : Int32) (v : Int32) (hn : n ≤ 8) : Met l yX1_isAskedOf wsX1_isAskedOf ({ frames := 3, cells := 0, slots := 0, locals := 66 }) (va_Pc [.ref h, .int k, .int w, .int x, .int v] (fun U => va_P (dC, dI) vwCl (wY h qb qj qm qw qt cA (nI n) rec lim fb fj fm fw ft) U.heap ∧ va_K (dC, dI) vwCl [(cA, .int)] U)) (QcRead (b2i (qst (nI n) k w x v))) 0 0 (fun _ => False) := by
  refine Met.ofW (cc := cX1_isAskedOf) (maxL := 5) (ret := (some .boolean)) (by decide) rfl ?_
  intro p e s m args below meth c s₁ B hml hv
  obtain ⟨rfl, hP, hK⟩ := hv
  have hx := B.exec
  have hb := B.bytes
  have hr := B.returns
  have hts := atoms_spec (ws := wsX1_isAskedOf) B.pre
  have hown : s.vm.findClass RX1 = some m.cls := findClass_of_methodNamed B.named
  have hlk := B.notSynchronized
  have hl := lv_entry ([.ref h, .int k, .int w, .int x, .int v]) (n := 5) (Nat.le_of_ble_eq_true rfl)
  rw [lg_entry_eq]
  generalize (lg_sl ([.ref h, .int k, .int w, .int x, .int v]) ++ List.replicate (5 - (lg_sl ([.ref h, .int k, .int w, .int x, .int v])).length) Slot.unset).toArray = ls at hl ⊢
  have hl : lv_has ls 5 [(0, .ref h), (1, .int k), (2, .int w), (3, .int x), (4, .int v)] := hl
  refine lv_aload_n hx hb dX1_isAskedOf_0 rfl (lv_at hl 0 rfl) ?_
  refine lv_iload_n hx hb dX1_isAskedOf_1 rfl (lv_at hl 1 rfl) ?_
  refine lv_iload_n hx hb dX1_isAskedOf_2 rfl (lv_at hl 2 rfl) ?_
  refine lv_iload_n hx hb dX1_isAskedOf_3 rfl (lv_at hl 3 rfl) ?_
  refine q_cv [.int k, .int w, .int x] (rest := []) ⟨hx, hb, hml, hown, hts⟩ (mX1_isAsked l dC dI h qb qj qm qw qt cA n rec lim fb fj fm fw ft k w x (by omega)) gX1_isAskedOf_X1_isAsked rfl rfl rfl hdX1_isAsked ⟨Nat.le_of_ble_eq_true rfl, Nat.le_of_ble_eq_true rfl⟩ rfl hK hP rfl rfl hl.1 rfl (Nat.le_of_ble_eq_true rfl) dX1_isAskedOf_4 ⟨Nat.zero_le _, Nat.zero_le _⟩ ?_
  refine lv_if_eq (tgt := 23) hx hb dX1_isAskedOf_7 (by decide) (fun c_1 => ?_) (fun c_1 => ?_)
  · skip
    have c_1 : (ask (nI n) k w x) = false := b2i_0 c_1
    refine lv_iconst (v := 0) hx hb dX1_isAskedOf_23 (by decide) ?_
    exact q_rb hx hb hr hlk (by rw [qst_ask]; simp [b2i, c_1]) dX1_isAskedOf_24
  · skip
    have c_1 : (ask (nI n) k w x) = true := b2i_n c_1
    refine lv_iload_n hx hb dX1_isAskedOf_10 rfl (lv_at hl 2 rfl) ?_
    refine lv_iload hx hb dX1_isAskedOf_11 (lv_at hl 4 rfl) ?_
    refine q_cs [.int w, .int v] (rest := []) ⟨hx, hb, hml, hown, hts⟩ (mX1_isCode l w v) gX1_isAskedOf_X1_isCode rfl rfl rfl hdX1_isCode ⟨Nat.le_of_ble_eq_true rfl, Nat.le_of_ble_eq_true rfl⟩ rfl hl.1 rfl (Nat.le_of_ble_eq_true rfl) dX1_isAskedOf_13 ⟨Nat.zero_le _, Nat.zero_le _⟩ ?_
    refine lv_if_eq (tgt := 23) hx hb dX1_isAskedOf_16 (by decide) (fun c_2 => ?_) (fun c_2 => ?_)
    · skip
      have c_2 : (cde w v) = false := b2i_0 c_2
      refine lv_iconst (v := 0) hx hb dX1_isAskedOf_23 (by decide) ?_
      exact q_rb hx hb hr hlk (by rw [qst_ask]; simp [b2i, c_1, c_2]) dX1_isAskedOf_24
    · skip
      have c_2 : (cde w v) = true := b2i_n c_2
      refine lv_iconst (v := 1) hx hb dX1_isAskedOf_19 (by decide) ?_
      refine lv_goto (tgt := 24) hx hb dX1_isAskedOf_20 (by decide) ?_
      exact q_rb hx hb hr hlk (by rw [qst_ask]; simp [b2i, c_1, c_2]) dX1_isAskedOf_24

theorem hdX1_value : yX1_value.cls = RX1 ∧ yX1_value.cls ≠ "java/lang/invoke/MethodHandle" ∧ yX1_value.cls ≠ "java/lang/invoke/VarHandle" ∧ (parseMethodDescriptor yX1_value.desc).map (fun d => d.parameters.length) = some 3 := by decide +kernel
set_option maxHeartbeats 4000000 in
set_option maxRecDepth 100000 in
theorem mX1_value (l : Launch) (dC : Nat → ClassId) (dI : Nat → Nat → Nat) (h qb qj qm qw qt : Nat) (cA : ClassId) (n : Nat) (rec lim : Int32) (fb fj fm fw ft : Nat → Int32) (M : Nat → Nat → Int32) (V : Nat → Nat → Int32) (w : Int32) (x : Int32) (r : Int32) (hM : ∀ j r, j < 8 → r < 6 → (if nI r < fj j then fm (6 * j + r) else 0) = M j r) (hV : ∀ j r, j < 8 → r < 6 → (if nI r < fj j then fw (6 * j + r) else 100) = V j r) (hn : n ≤ 8) : Met l yX1_value wsX1_value ({ frames := 2, cells := 0, slots := 0, locals := 43 }) (va_Pc [.ref h, .int w, .int x, .int r] (fun U => va_P (dC, dI) vwCl (wY h qb qj qm qw qt cA (nI n) rec lim fb fj fm fw ft) U.heap ∧ va_K (dC, dI) vwCl [(cA, .int)] U)) (QcRead (aValue M V (nI n) w x r)) 0 0 (fun _ => False) := by
  refine Met.ofW (cc := cX1_value) (maxL := 4) (ret := (some .int)) (by decide) rfl ?_
  intro p e s m args below meth c s₁ B hml hv
  obtain ⟨rfl, hP, hK⟩ := hv
  have hx := B.exec
  have hb := B.bytes
  have hr := B.returns
  have hts := atoms_spec (ws := wsX1_value) B.pre
  have hown : s.vm.findClass RX1 = some m.cls := findClass_of_methodNamed B.named
  have hlk := B.notSynchronized
  have hl := lv_entry ([.ref h, .int w, .int x, .int r]) (n := 4) (Nat.le_of_ble_eq_true rfl)
  rw [lg_entry_eq]
  generalize (lg_sl ([.ref h, .int w, .int x, .int r]) ++ List.replicate (4 - (lg_sl ([.ref h, .int w, .int x, .int r])).length) Slot.unset).toArray = ls at hl ⊢
  have hl : lv_has ls 4 [(0, .ref h), (1, .int w), (2, .int x), (3, .int r)] := hl
  refine lv_iload_n hx hb dX1_value_0 rfl (lv_at hl 1 rfl) ?_
  refine lv_iconst (v := 0) hx hb dX1_value_1 (by decide) ?_
  refine lv_iconst (v := 1) hx hb dX1_value_2 (by decide) ?_
  refine q_cs [.int w, .int 0, .int 1] (rest := []) ⟨hx, hb, hml, hown, hts⟩ (mX1_isIn l w 0 1) gX1_value_X1_isIn rfl rfl rfl hdX1_isIn ⟨Nat.le_of_ble_eq_true rfl, Nat.le_of_ble_eq_true rfl⟩ rfl hl.1 rfl (Nat.le_of_ble_eq_true rfl) dX1_value_3 ⟨Nat.zero_le _, Nat.zero_le _⟩ ?_
  refine lv_if_eq (tgt := 24) hx hb dX1_value_6 (by decide) (fun c_1 => ?_) (fun c_1 => ?_)
  · skip
    have c_1 : (inR w 0 1) = false := b2i_0 c_1
    refine lv_sipush (v := (-1000)) hx hb dX1_value_24 (by decide) ?_
    exact q_ri hx hb hr hlk (by simp_all [aValue, inR_wht]) dX1_value_27
  · skip
    have c_1 : (inR w 0 1) = true := b2i_n c_1
    refine lv_aload_n hx hb dX1_value_9 rfl (lv_at hl 0 rfl) ?_
    refine lv_iload_n hx hb dX1_value_10 rfl (lv_at hl 2 rfl) ?_
    refine q_cv [.int x] (rest := []) ⟨hx, hb, hml, hown, hts⟩ (mX1_isJumper l dC dI h qb qj qm qw qt cA n rec lim fb fj fm fw ft x (by omega)) gX1_value_X1_isJumper rfl rfl rfl hdX1_isJumper ⟨Nat.le_of_ble_eq_true rfl, Nat.le_of_ble_eq_true rfl⟩ rfl hK hP rfl rfl hl.1 rfl (Nat.le_of_ble_eq_true rfl) dX1_value_11 ⟨Nat.zero_le _, Nat.zero_le _⟩ ?_
    refine lv_if_eq (tgt := 24) hx hb dX1_value_14 (by decide) (fun c_2 => ?_) (fun c_2 => ?_)
    · skip
      have c_2 : (jmp (nI n) x) = false := b2i_0 c_2
      refine lv_sipush (v := (-1000)) hx hb dX1_value_24 (by decide) ?_
      exact q_ri hx hb hr hlk (by simp_all [aValue, inR_wht]) dX1_value_27
    · skip
      have c_2 : (jmp (nI n) x) = true := b2i_n c_2
      refine lv_iload_n hx hb dX1_value_17 rfl (lv_at hl 3 rfl) ?_
      refine q_cs [.int r] (rest := []) ⟨hx, hb, hml, hown, hts⟩ (mX1_isRound l r) gX1_value_X1_isRound rfl rfl rfl hdX1_isRound ⟨Nat.le_of_ble_eq_true rfl, Nat.le_of_ble_eq_true rfl⟩ rfl hl.1 rfl (Nat.le_of_ble_eq_true rfl) dX1_value_18 ⟨Nat.zero_le _, Nat.zero_le _⟩ ?_
      refine lv_if_ne (tgt := 28) hx hb dX1_value_21 (by decide) (fun c_3 => ?_) (fun c_3 => ?_)
      · skip
        have c_3 : (rnd r) = true := b2i_n c_3
        obtain ⟨j, hj, rfl⟩ := jmp_of c_2 hn
        obtain ⟨r6, hr6, rfl⟩ := rnd_of c_3
        refine lv_aload_n hx hb dX1_value_28 rfl (lv_at hl 0 rfl) ?_
        refine lv_iload_n hx hb dX1_value_29 rfl (lv_at hl 1 rfl) ?_
        refine lv_iload_n hx hb dX1_value_30 rfl (lv_at hl 2 rfl) ?_
        refine lv_iload_n hx hb dX1_value_31 rfl (lv_at hl 3 rfl) ?_
        refine q_cv [.int w, .int (nI j), .int (nI r6)] (rest := []) ⟨hx, hb, hml, hown, hts⟩ (mX1_code l dC dI h qb qj qm qw qt cA n rec lim fb fj fm fw ft M V w j r6 hM hV (by omega) (by omega)) gX1_value_X1_code rfl rfl rfl hdX1_code ⟨Nat.le_of_ble_eq_true rfl, Nat.le_of_ble_eq_true rfl⟩ rfl hK hP rfl rfl hl.1 rfl (Nat.le_of_ble_eq_true rfl) dX1_value_32 ⟨Nat.zero_le _, Nat.zero_le _⟩ ?_
        exact q_ri hx hb hr hlk (by rw [aValue, if_pos (by simp_all [inR_wht]), nI_clamp (by omega), nI_clamp (by omega)]) dX1_value_35
      · skip
        have c_3 : (rnd r) = false := b2i_0 c_3
        refine lv_sipush (v := (-1000)) hx hb dX1_value_24 (by decide) ?_
        exact q_ri hx hb hr hlk (by simp_all [aValue, inR_wht]) dX1_value_27

theorem hdX1_fits : yX1_fits.cls = RX1 ∧ yX1_fits.cls ≠ "java/lang/invoke/MethodHandle" ∧ yX1_fits.cls ≠ "java/lang/invoke/VarHandle" ∧ (parseMethodDescriptor yX1_fits.desc).map (fun d => d.parameters.length) = some 5 := by decide +kernel
set_option maxHeartbeats 4000000 in
set_option maxRecDepth 100000 in
theorem mX1_fits (l : Launch) (dC : Nat → ClassId) (dI : Nat → Nat → Nat) (h qb qj qm qw qt : Nat) (cA : ClassId) (n : Nat) (rec lim : Int32) (fb fj fm fw ft : Nat → Int32) (M : Nat → Nat → Int32) (V : Nat → Nat → Int32) (k : Int32) (w : Int32) (x : Int32) (a : Int32) (b : Int32) (hM : ∀ j r, j < 8 → r < 6 → (if nI r < fj j then fm (6 * j + r) else 0) = M j r) (hV : ∀ j r, j < 8 → r < 6 → (if nI r < fj j then fw (6 * j + r) else 100) = V j r) (hT : ft 0 = 1 ∧ ft 1 = 3 ∧ ft 2 = 4 ∧ ft 3 = 6 ∧ ft 4 = 2 ∧ ft 5 = 5) (hn : n ≤ 8) : Met l yX1_fits wsX1_fits ({ frames := 3, cells := 0, slots := 0, locals := 66 }) (va_Pc [.ref h, .int k, .int w, .int x, .int a, .int b] (fun U => va_P (dC, dI) vwCl (wY h qb qj qm qw qt cA (nI n) rec lim fb fj fm fw ft) U.heap ∧ va_K (dC, dI) vwCl [(cA, .int)] U)) (QcRead (aFits M V (nI n) k w x a b)) 0 0 (fun _ => False) := by
  refine Met.ofW (cc := cX1_fits) (maxL := 6) (ret := (some .int)) (by decide) rfl ?_
  intro p e s m args below meth c s₁ B hml hv
  obtain ⟨rfl, hP, hK⟩ := hv
  have hx := B.exec
  have hb := B.bytes
  have hr := B.returns
  have hts := atoms_spec (ws := wsX1_fits) B.pre
  have hown : s.vm.findClass RX1 = some m.cls := findClass_of_methodNamed B.named
  have hlk := B.notSynchronized
  have hl := lv_entry ([.ref h, .int k, .int w, .int x, .int a, .int b]) (n := 6) (Nat.le_of_ble_eq_true rfl)
  rw [lg_entry_eq]
  generalize (lg_sl ([.ref h, .int k, .int w, .int x, .int a, .int b]) ++ List.replicate (6 - (lg_sl ([.ref h, .int k, .int w, .int x, .int a, .int b])).length) Slot.unset).toArray = ls at hl ⊢
  have hl : lv_has ls 6 [(0, .ref h), (1, .int k), (2, .int w), (3, .int x), (4, .int a), (5, .int b)] := hl
  refine lv_aload_n hx hb dX1_fits_0 rfl (lv_at hl 0 rfl) ?_
  refine lv_iload_n hx hb dX1_fits_1 rfl (lv_at hl 1 rfl) ?_
  refine lv_iload_n hx hb dX1_fits_2 rfl (lv_at hl 2 rfl) ?_
  refine lv_iload_n hx hb dX1_fits_3 rfl (lv_at hl 3 rfl) ?_
  refine q_cv [.int k, .int w, .int x] (rest := []) ⟨hx, hb, hml, hown, hts⟩ (mX1_isAsked l dC dI h qb qj qm qw qt cA n rec lim fb fj fm fw ft k w x (by omega)) gX1_fits_X1_isAsked rfl rfl rfl hdX1_isAsked ⟨Nat.le_of_ble_eq_true rfl, Nat.le_of_ble_eq_true rfl⟩ rfl hK hP rfl rfl hl.1 rfl (Nat.le_of_ble_eq_true rfl) dX1_fits_4 ⟨Nat.zero_le _, Nat.zero_le _⟩ ?_
  refine lv_if_eq (tgt := 26) hx hb dX1_fits_7 (by decide) (fun c_1 => ?_) (fun c_1 => ?_)
  · skip
    have c_1 : (ask (nI n) k w x) = false := b2i_0 c_1
    refine lv_sipush (v := (-1000)) hx hb dX1_fits_26 (by decide) ?_
    exact q_ri hx hb hr hlk (by rw [aFits_ask]; simp [c_1]) dX1_fits_29
  · skip
    have c_1 : (ask (nI n) k w x) = true := b2i_n c_1
    refine lv_iload hx hb dX1_fits_10 (lv_at hl 4 rfl) ?_
    refine q_cs [.int a] (rest := []) ⟨hx, hb, hml, hown, hts⟩ (mX1_isRound l a) gX1_fits_X1_isRound rfl rfl rfl hdX1_isRound ⟨Nat.le_of_ble_eq_true rfl, Nat.le_of_ble_eq_true rfl⟩ rfl hl.1 rfl (Nat.le_of_ble_eq_true rfl) dX1_fits_12 ⟨Nat.zero_le _, Nat.zero_le _⟩ ?_
    refine lv_if_eq (tgt := 26) hx hb dX1_fits_15 (by decide) (fun c_2 => ?_) (fun c_2 => ?_)
    · skip
      have c_2 : (rnd a) = false := b2i_0 c_2
      refine lv_sipush (v := (-1000)) hx hb dX1_fits_26 (by decide) ?_
      exact q_ri hx hb hr hlk (by rw [aFits_ask]; simp [c_1, c_2]) dX1_fits_29
    · skip
      have c_2 : (rnd a) = true := b2i_n c_2
      refine lv_iload hx hb dX1_fits_18 (lv_at hl 5 rfl) ?_
      refine q_cs [.int b] (rest := []) ⟨hx, hb, hml, hown, hts⟩ (mX1_isRound l b) gX1_fits_X1_isRound rfl rfl rfl hdX1_isRound ⟨Nat.le_of_ble_eq_true rfl, Nat.le_of_ble_eq_true rfl⟩ rfl hl.1 rfl (Nat.le_of_ble_eq_true rfl) dX1_fits_20 ⟨Nat.zero_le _, Nat.zero_le _⟩ ?_
      refine lv_if_ne (tgt := 30) hx hb dX1_fits_23 (by decide) (fun c_3 => ?_) (fun c_3 => ?_)
      · skip
        have c_3 : (rnd b) = true := b2i_n c_3
        obtain ⟨j, hj, rfl⟩ := jmp_of (ask_j c_1) hn
        obtain ⟨k6, hk6, rfl⟩ := hwo_of (ask_h c_1)
        obtain ⟨a6, ha6, rfl⟩ := rnd_of c_2
        obtain ⟨b6, hb6, rfl⟩ := rnd_of c_3
        refine lv_aload_n hx hb dX1_fits_30 rfl (lv_at hl 0 rfl) ?_
        refine lv_iload_n hx hb dX1_fits_31 rfl (lv_at hl 1 rfl) ?_
        refine lv_iload_n hx hb dX1_fits_32 rfl (lv_at hl 2 rfl) ?_
        refine lv_aload_n hx hb dX1_fits_33 rfl (lv_at hl 0 rfl) ?_
        refine lv_iload_n hx hb dX1_fits_34 rfl (lv_at hl 2 rfl) ?_
        refine lv_iload_n hx hb dX1_fits_35 rfl (lv_at hl 3 rfl) ?_
        refine lv_iload hx hb dX1_fits_36 (lv_at hl 4 rfl) ?_
        refine q_cv [.int w, .int (nI j), .int (nI a6)] (rest := [.int w, .int (nI k6), .ref h]) ⟨hx, hb, hml, hown, hts⟩ (mX1_code l dC dI h qb qj qm qw qt cA n rec lim fb fj fm fw ft M V w j a6 hM hV (by omega) (by omega)) gX1_fits_X1_code rfl rfl rfl hdX1_code ⟨Nat.le_of_ble_eq_true rfl, Nat.le_of_ble_eq_true rfl⟩ rfl hK hP rfl rfl hl.1 rfl (Nat.le_of_ble_eq_true rfl) dX1_fits_38 ⟨Nat.zero_le _, Nat.zero_le _⟩ ?_
        refine lv_aload_n hx hb dX1_fits_41 rfl (lv_at hl 0 rfl) ?_
        refine lv_iload_n hx hb dX1_fits_42 rfl (lv_at hl 2 rfl) ?_
        refine lv_iload_n hx hb dX1_fits_43 rfl (lv_at hl 3 rfl) ?_
        refine lv_iload hx hb dX1_fits_44 (lv_at hl 5 rfl) ?_
        refine q_cv [.int w, .int (nI j), .int (nI b6)] (rest := [.int (vlu M V w j a6), .int w, .int (nI k6), .ref h]) ⟨hx, hb, hml, hown, hts⟩ (mX1_code l dC dI h qb qj qm qw qt cA n rec lim fb fj fm fw ft M V w j b6 hM hV (by omega) (by omega)) gX1_fits_X1_code rfl rfl rfl hdX1_code ⟨Nat.le_of_ble_eq_true rfl, Nat.le_of_ble_eq_true rfl⟩ rfl hK hP rfl rfl hl.1 rfl (Nat.le_of_ble_eq_true rfl) dX1_fits_46 ⟨Nat.zero_le _, Nat.zero_le _⟩ ?_
        refine q_cv [.int (nI k6), .int w, .int (vlu M V w j a6), .int (vlu M V w j b6)] (rest := []) ⟨hx, hb, hml, hown, hts⟩ (mX1_fit l dC dI h qb qj qm qw qt cA n rec lim fb fj fm fw ft k6 w (vlu M V w j a6) (vlu M V w j b6) hT (by omega)) gX1_fits_X1_fit rfl rfl rfl hdX1_fit ⟨Nat.le_of_ble_eq_true rfl, Nat.le_of_ble_eq_true rfl⟩ rfl hK hP rfl rfl hl.1 rfl (Nat.le_of_ble_eq_true rfl) dX1_fits_49 ⟨Nat.zero_le _, Nat.zero_le _⟩ ?_
        refine lv_if_eq (tgt := 59) hx hb dX1_fits_52 (by decide) (fun c_4 => ?_) (fun c_4 => ?_)
        · skip
          have c_4 : (fitv (nI k6) w (vlu M V w j a6) (vlu M V w j b6)) = false := b2i_0 c_4
          refine lv_iconst (v := 0) hx hb dX1_fits_59 (by decide) ?_
          exact q_ri hx hb hr hlk (by rw [aFits_ask, if_pos (by simp [c_1, c_2, c_3]), nI_clamp (by omega), nI_clamp (by omega), nI_clamp (by omega), c_4]; rfl) dX1_fits_60
        · skip
          have c_4 : (fitv (nI k6) w (vlu M V w j a6) (vlu M V w j b6)) = true := b2i_n c_4
          refine lv_iconst (v := 1) hx hb dX1_fits_55 (by decide) ?_
          refine lv_goto (tgt := 60) hx hb dX1_fits_56 (by decide) ?_
          exact q_ri hx hb hr hlk (by rw [aFits_ask, if_pos (by simp [c_1, c_2, c_3]), nI_clamp (by omega), nI_clamp (by omega), nI_clamp (by omega), c_4]; rfl) dX1_fits_60
      · skip
        have c_3 : (rnd b) = false := b2i_0 c_3
        refine lv_sipush (v := (-1000)) hx hb dX1_fits_26 (by decide) ?_
        exact q_ri hx hb hr hlk (by rw [aFits_ask]; simp [c_1, c_2, c_3]) dX1_fits_29

theorem hdX1_count : yX1_count.cls = RX1 ∧ yX1_count.cls ≠ "java/lang/invoke/MethodHandle" ∧ yX1_count.cls ≠ "java/lang/invoke/VarHandle" ∧ (parseMethodDescriptor yX1_count.desc).map (fun d => d.parameters.length) = some 4 := by decide +kernel
set_option maxHeartbeats 4000000 in
set_option maxRecDepth 100000 in
theorem mX1_count (l : Launch) (dC : Nat → ClassId) (dI : Nat → Nat → Nat) (h qb qj qm qw qt : Nat) (cA : ClassId) (n : Nat) (rec lim : Int32) (fb fj fm fw ft : Nat → Int32) (M : Nat → Nat → Int32) (V : Nat → Nat → Int32) (k : Int32) (w : Int32) (x : Int32) (v : Int32) (hM : ∀ j r, j < 8 → r < 6 → (if nI r < fj j then fm (6 * j + r) else 0) = M j r) (hV : ∀ j r, j < 8 → r < 6 → (if nI r < fj j then fw (6 * j + r) else 100) = V j r) (hT : ft 0 = 1 ∧ ft 1 = 3 ∧ ft 2 = 4 ∧ ft 3 = 6 ∧ ft 4 = 2 ∧ ft 5 = 5) (hn : n ≤ 8) : Met l yX1_count wsX1_count ({ frames := 4, cells := 0, slots := 0, locals := 90 }) (va_Pc [.ref h, .int k, .int w, .int x, .int v] (fun U => va_P (dC, dI) vwCl (wY h qb qj qm qw qt cA (nI n) rec lim fb fj fm fw ft) U.heap ∧ va_K (dC, dI) vwCl [(cA, .int)] U)) (QcRead (aCount M V (nI n) k w x v)) 0 0 (fun _ => False) := by
  refine Met.ofW (cc := cX1_count) (maxL := 7) (ret := (some .int)) (by decide) rfl ?_
  intro p e s m args below meth c s₁ B hml hv
  obtain ⟨rfl, hP, hK⟩ := hv
  have hx := B.exec
  have hb := B.bytes
  have hr := B.returns
  have hts := atoms_spec (ws := wsX1_count) B.pre
  have hown : s.vm.findClass RX1 = some m.cls := findClass_of_methodNamed B.named
  have hlk := B.notSynchronized
  have hl := lv_entry ([.ref h, .int k, .int w, .int x, .int v]) (n := 7) (Nat.le_of_ble_eq_true rfl)
  rw [lg_entry_eq]
  generalize (lg_sl ([.ref h, .int k, .int w, .int x, .int v]) ++ List.replicate (7 - (lg_sl ([.ref h, .int k, .int w, .int x, .int v])).length) Slot.unset).toArray = ls at hl ⊢
  have hl : lv_has ls 7 [(0, .ref h), (1, .int k), (2, .int w), (3, .int x), (4, .int v)] := hl
  refine lv_aload_n hx hb dX1_count_0 rfl (lv_at hl 0 rfl) ?_
  refine lv_iload_n hx hb dX1_count_1 rfl (lv_at hl 1 rfl) ?_
  refine lv_iload_n hx hb dX1_count_2 rfl (lv_at hl 2 rfl) ?_
  refine lv_iload_n hx hb dX1_count_3 rfl (lv_at hl 3 rfl) ?_
  refine lv_iload hx hb dX1_count_4 (lv_at hl 4 rfl) ?_
  refine q_cv [.int k, .int w, .int x, .int v] (rest := []) ⟨hx, hb, hml, hown, hts⟩ (mX1_isAskedOf l dC dI h qb qj qm qw qt cA n rec lim fb fj fm fw ft k w x v (by omega)) gX1_count_X1_isAskedOf rfl rfl rfl hdX1_isAskedOf ⟨Nat.le_of_ble_eq_true rfl, Nat.le_of_ble_eq_true rfl⟩ rfl hK hP rfl rfl hl.1 rfl (Nat.le_of_ble_eq_true rfl) dX1_count_6 ⟨Nat.zero_le _, Nat.zero_le _⟩ ?_
  refine lv_if_ne (tgt := 16) hx hb dX1_count_9 (by decide) (fun c_1 => ?_) (fun c_1 => ?_)
  · skip
    have c_1 : (qst (nI n) k w x v) = true := b2i_n c_1
    obtain ⟨j, hj, rfl⟩ := jmp_of (qst_j c_1) hn
    obtain ⟨k6, hk6, rfl⟩ := hwo_of (qst_h c_1)
    refine lv_iconst (v := 0) hx hb dX1_count_16 (by decide) ?_
    refine lv_istore (lv' := [(5, .int 0), (0, .ref h), (1, .int (nI k6)), (2, .int w), (3, .int (nI j)), (4, .int v)]) hx hb dX1_count_17 hl (by decide) rfl (fun ls hl => ?_)
    refine lv_iconst (v := 0) hx hb dX1_count_19 (by decide) ?_
    refine lv_istore (lv' := [(6, .int 0), (5, .int 0), (0, .ref h), (1, .int (nI k6)), (2, .int w), (3, .int (nI j)), (4, .int v)]) hx hb dX1_count_20 hl (by decide) rfl (fun ls hl => ?_)
    refine q_lp (head := 22) (6) (fun i => [(0, .ref h), (1, .int (nI k6)), (2, .int w), (3, .int (nI j)), (4, .int v), (5, .int (nI (cntB (fun r => fitv (nI k6) w (vlu M V w j r) v) i))), (6, .int (nI i))]) (fun i => True) (0) (by omega) (trivial) (q_hl (lv_sub (l' := [(0, .ref h), (1, .int (nI k6)), (2, .int w), (3, .int (nI j)), (4, .int v), (5, .int 0), (6, .int 0)]) hl [2, 3, 4, 5, 6, 1, 0] rfl) (q_ck (q_ck (q_ck (q_ck (q_ck (q_ce (by rfl) (q_ce (by rfl) (rfl))))))))) ?_ ?_
    · intro i hi_i hI_i ih_i ls hl
      have hl : lv_has ls 7 [(0, .ref h), (1, .int (nI k6)), (2, .int w), (3, .int (nI j)), (4, .int v), (5, .int (nI (cntB (fun r => fitv (nI k6) w (vlu M V w j r) v) i))), (6, .int (nI i))] := hl
      refine lv_iload hx hb dX1_count_22 (lv_at hl 6 rfl) ?_
      refine lv_bipush (v := 6) hx hb dX1_count_24 (by decide) ?_
      refine lv_icmp_ge (tgt := 64) hx hb dX1_count_26 (by decide) (fun c_2 => absurd c_2 (nI_ge (b := 6) hi_i (by decide))) (fun c_2 => ?_)
      refine lv_iload hx hb dX1_count_29 (lv_at hl 5 rfl) ?_
      refine lv_aload_n hx hb dX1_count_31 rfl (lv_at hl 0 rfl) ?_
      refine lv_iload_n hx hb dX1_count_32 rfl (lv_at hl 1 rfl) ?_
      refine lv_iload_n hx hb dX1_count_33 rfl (lv_at hl 2 rfl) ?_
      refine lv_aload_n hx hb dX1_count_34 rfl (lv_at hl 0 rfl) ?_
      refine lv_iload_n hx hb dX1_count_35 rfl (lv_at hl 2 rfl) ?_
      refine lv_iload_n hx hb dX1_count_36 rfl (lv_at hl 3 rfl) ?_
      refine lv_iload hx hb dX1_count_37 (lv_at hl 6 rfl) ?_
      refine q_cv [.int w, .int (nI j), .int (nI i)] (rest := [.int w, .int (nI k6), .ref h, .int (nI (cntB (fun r => fitv (nI k6) w (vlu M V w j r) v) i))]) ⟨hx, hb, hml, hown, hts⟩ (mX1_code l dC dI h qb qj qm qw qt cA n rec lim fb fj fm fw ft M V w j i hM hV (by omega) (by omega)) gX1_count_X1_code rfl rfl rfl hdX1_code ⟨Nat.le_of_ble_eq_true rfl, Nat.le_of_ble_eq_true rfl⟩ rfl hK hP rfl rfl hl.1 rfl (Nat.le_of_ble_eq_true rfl) dX1_count_39 ⟨Nat.zero_le _, Nat.zero_le _⟩ ?_
      refine lv_iload hx hb dX1_count_42 (lv_at hl 4 rfl) ?_
      refine q_cv [.int (nI k6), .int w, .int (vlu M V w j i), .int v] (rest := [.int (nI (cntB (fun r => fitv (nI k6) w (vlu M V w j r) v) i))]) ⟨hx, hb, hml, hown, hts⟩ (mX1_fit l dC dI h qb qj qm qw qt cA n rec lim fb fj fm fw ft k6 w (vlu M V w j i) v hT (by omega)) gX1_count_X1_fit rfl rfl rfl hdX1_fit ⟨Nat.le_of_ble_eq_true rfl, Nat.le_of_ble_eq_true rfl⟩ rfl hK hP rfl rfl hl.1 rfl (Nat.le_of_ble_eq_true rfl) dX1_count_44 ⟨Nat.zero_le _, Nat.zero_le _⟩ ?_
      refine lv_if_eq (tgt := 54) hx hb dX1_count_47 (by decide) (fun c_3 => ?_) (fun c_3 => ?_)
      · skip
        have c_3 : (fitv (nI k6) w (vlu M V w j i) v) = false := b2i_0 c_3
        refine lv_iconst (v := 0) hx hb dX1_count_54 (by decide) ?_
        refine lv_iadd hx hb dX1_count_55 ?_
        refine lv_istore (lv' := [(5, .int ((nI (cntB (fun r => fitv (nI k6) w (vlu M V w j r) v) i)) + 0)), (0, .ref h), (1, .int (nI k6)), (2, .int w), (3, .int (nI j)), (4, .int v), (6, .int (nI i))]) hx hb dX1_count_56 hl (by decide) rfl (fun ls hl => ?_)
        refine lv_iinc (v := (nI (i + 1))) (lv' := [(6, .int (nI (i + 1))), (5, .int ((nI (cntB (fun r => fitv (nI k6) w (vlu M V w j r) v) i)) + 0)), (0, .ref h), (1, .int (nI k6)), (2, .int w), (3, .int (nI j)), (4, .int v)]) hx hb dX1_count_58 hl (k := 6) rfl (by exact nI_1 _) (by decide) rfl (fun ls hl => ?_)
        refine lv_goto (tgt := 22) hx hb dX1_count_61 (by decide) ?_
        exact ih_i (by exact trivial) ls (q_hl (lv_sub (l' := [(0, .ref h), (1, .int (nI k6)), (2, .int w), (3, .int (nI j)), (4, .int v), (5, .int ((nI (cntB (fun r => fitv (nI k6) w (vlu M V w j r) v) i)) + 0)), (6, .int (nI (i + 1)))]) hl [2, 3, 4, 5, 6, 1, 0] rfl) (q_ck (q_ck (q_ck (q_ck (q_ck (q_ce (by simp [cntB, c_1, c_3, nI_1]) (q_ck (rfl)))))))))
      · skip
        have c_3 : (fitv (nI k6) w (vlu M V w j i) v) = true := b2i_n c_3
        refine lv_iconst (v := 1) hx hb dX1_count_50 (by decide) ?_
        refine lv_goto (tgt := 55) hx hb dX1_count_51 (by decide) ?_
        refine lv_iadd hx hb dX1_count_55 ?_
        refine lv_istore (lv' := [(5, .int ((nI (cntB (fun r => fitv (nI k6) w (vlu M V w j r) v) i)) + 1)), (0, .ref h), (1, .int (nI k6)), (2, .int w), (3, .int (nI j)), (4, .int v), (6, .int (nI i))]) hx hb dX1_count_56 hl (by decide) rfl (fun ls hl => ?_)
        refine lv_iinc (v := (nI (i + 1))) (lv' := [(6, .int (nI (i + 1))), (5, .int ((nI (cntB (fun r => fitv (nI k6) w (vlu M V w j r) v) i)) + 1)), (0, .ref h), (1, .int (nI k6)), (2, .int w), (3, .int (nI j)), (4, .int v)]) hx hb dX1_count_58 hl (k := 6) rfl (by exact nI_1 _) (by decide) rfl (fun ls hl => ?_)
        refine lv_goto (tgt := 22) hx hb dX1_count_61 (by decide) ?_
        exact ih_i (by exact trivial) ls (q_hl (lv_sub (l' := [(0, .ref h), (1, .int (nI k6)), (2, .int w), (3, .int (nI j)), (4, .int v), (5, .int ((nI (cntB (fun r => fitv (nI k6) w (vlu M V w j r) v) i)) + 1)), (6, .int (nI (i + 1)))]) hl [2, 3, 4, 5, 6, 1, 0] rfl) (q_ck (q_ck (q_ck (q_ck (q_ck (q_ce (by simp [cntB, c_1, c_3, nI_1]) (q_ck (rfl)))))))))
    · intro hI_i ls hl
      have hl : lv_has ls 7 [(0, .ref h), (1, .int (nI k6)), (2, .int w), (3, .int (nI j)), (4, .int v), (5, .int (nI (cntB (fun r => fitv (nI k6) w (vlu M V w j r) v) 6))), (6, .int (nI 6))] := hl
      refine lv_iload hx hb dX1_count_22 (lv_at hl 6 rfl) ?_
      refine lv_bipush (v := 6) hx hb dX1_count_24 (by decide) ?_
      refine lv_icmp_ge (tgt := 64) hx hb dX1_count_26 (by decide) (fun c_4 => ?_) (fun c_4 => absurd (by decide) c_4)
      refine lv_iload hx hb dX1_count_64 (lv_at hl 5 rfl) ?_
      exact q_ri hx hb hr hlk (by rw [aCount, if_pos c_1, nI_clamp (by omega)]) dX1_count_66
  · skip
    have c_1 : (qst (nI n) k w x v) = false := b2i_0 c_1
    refine lv_sipush (v := (-1000)) hx hb dX1_count_12 (by decide) ?_
    exact q_ri hx hb hr hlk (by simp [aCount, c_1]) dX1_count_15

theorem hdX1_turned : yX1_turned.cls = RX1 ∧ yX1_turned.cls ≠ "java/lang/invoke/MethodHandle" ∧ yX1_turned.cls ≠ "java/lang/invoke/VarHandle" ∧ (parseMethodDescriptor yX1_turned.desc).map (fun d => d.parameters.length) = some 4 := by decide +kernel
set_option maxHeartbeats 4000000 in
set_option maxRecDepth 100000 in
theorem mX1_turned (l : Launch) (dC : Nat → ClassId) (dI : Nat → Nat → Nat) (h qb qj qm qw qt : Nat) (cA : ClassId) (n : Nat) (rec lim : Int32) (fb fj fm fw ft : Nat → Int32) (M : Nat → Nat → Int32) (V : Nat → Nat → Int32) (k : Int32) (w : Int32) (x : Int32) (v : Int32) (hM : ∀ j r, j < 8 → r < 6 → (if nI r < fj j then fm (6 * j + r) else 0) = M j r) (hV : ∀ j r, j < 8 → r < 6 → (if nI r < fj j then fw (6 * j + r) else 100) = V j r) (hT : ft 0 = 1 ∧ ft 1 = 3 ∧ ft 2 = 4 ∧ ft 3 = 6 ∧ ft 4 = 2 ∧ ft 5 = 5) (hn : n ≤ 8) : Met l yX1_turned wsX1_turned ({ frames := 4, cells := 0, slots := 0, locals := 90 }) (va_Pc [.ref h, .int k, .int w, .int x, .int v] (fun U => va_P (dC, dI) vwCl (wY h qb qj qm qw qt cA (nI n) rec lim fb fj fm fw ft) U.heap ∧ va_K (dC, dI) vwCl [(cA, .int)] U)) (QcRead (aTurned M V (nI n) k w x v)) 0 0 (fun _ => False) := by
  refine Met.ofW (cc := cX1_turned) (maxL := 7) (ret := (some .int)) (by decide) rfl ?_
  intro p e s m args below meth c s₁ B hml hv
  obtain ⟨rfl, hP, hK⟩ := hv
  have hx := B.exec
  have hb := B.bytes
  have hr := B.returns
  have hts := atoms_spec (ws := wsX1_turned) B.pre
  have hown : s.vm.findClass RX1 = some m.cls := findClass_of_methodNamed B.named
  have hlk := B.notSynchronized
  have hl := lv_entry ([.ref h, .int k, .int w, .int x, .int v]) (n := 7) (Nat.le_of_ble_eq_true rfl)
  rw [lg_entry_eq]
  generalize (lg_sl ([.ref h, .int k, .int w, .int x, .int v]) ++ List.replicate (7 - (lg_sl ([.ref h, .int k, .int w, .int x, .int v])).length) Slot.unset).toArray = ls at hl ⊢
  have hl : lv_has ls 7 [(0, .ref h), (1, .int k), (2, .int w), (3, .int x), (4, .int v)] := hl
  refine lv_aload_n hx hb dX1_turned_0 rfl (lv_at hl 0 rfl) ?_
  refine lv_iload_n hx hb dX1_turned_1 rfl (lv_at hl 1 rfl) ?_
  refine lv_iload_n hx hb dX1_turned_2 rfl (lv_at hl 2 rfl) ?_
  refine lv_iload_n hx hb dX1_turned_3 rfl (lv_at hl 3 rfl) ?_
  refine lv_iload hx hb dX1_turned_4 (lv_at hl 4 rfl) ?_
  refine q_cv [.int k, .int w, .int x, .int v] (rest := []) ⟨hx, hb, hml, hown, hts⟩ (mX1_isAskedOf l dC dI h qb qj qm qw qt cA n rec lim fb fj fm fw ft k w x v (by omega)) gX1_turned_X1_isAskedOf rfl rfl rfl hdX1_isAskedOf ⟨Nat.le_of_ble_eq_true rfl, Nat.le_of_ble_eq_true rfl⟩ rfl hK hP rfl rfl hl.1 rfl (Nat.le_of_ble_eq_true rfl) dX1_turned_6 ⟨Nat.zero_le _, Nat.zero_le _⟩ ?_
  refine lv_if_ne (tgt := 16) hx hb dX1_turned_9 (by decide) (fun c_1 => ?_) (fun c_1 => ?_)
  · skip
    have c_1 : (qst (nI n) k w x v) = true := b2i_n c_1
    obtain ⟨j, hj, rfl⟩ := jmp_of (qst_j c_1) hn
    obtain ⟨k6, hk6, rfl⟩ := hwo_of (qst_h c_1)
    refine lv_iconst (v := 0) hx hb dX1_turned_16 (by decide) ?_
    refine lv_istore (lv' := [(5, .int 0), (0, .ref h), (1, .int (nI k6)), (2, .int w), (3, .int (nI j)), (4, .int v)]) hx hb dX1_turned_17 hl (by decide) rfl (fun ls hl => ?_)
    refine lv_iconst (v := 0) hx hb dX1_turned_19 (by decide) ?_
    refine lv_istore (lv' := [(6, .int 0), (5, .int 0), (0, .ref h), (1, .int (nI k6)), (2, .int w), (3, .int (nI j)), (4, .int v)]) hx hb dX1_turned_20 hl (by decide) rfl (fun ls hl => ?_)
    refine q_lp (head := 22) (6) (fun i => [(0, .ref h), (1, .int (nI k6)), (2, .int w), (3, .int (nI j)), (4, .int v), (5, .int (nI (cntB (fun r => fitv (nI k6) w v (vlu M V w j r)) i))), (6, .int (nI i))]) (fun i => True) (0) (by omega) (trivial) (q_hl (lv_sub (l' := [(0, .ref h), (1, .int (nI k6)), (2, .int w), (3, .int (nI j)), (4, .int v), (5, .int 0), (6, .int 0)]) hl [2, 3, 4, 5, 6, 1, 0] rfl) (q_ck (q_ck (q_ck (q_ck (q_ck (q_ce (by rfl) (q_ce (by rfl) (rfl))))))))) ?_ ?_
    · intro i hi_i hI_i ih_i ls hl
      have hl : lv_has ls 7 [(0, .ref h), (1, .int (nI k6)), (2, .int w), (3, .int (nI j)), (4, .int v), (5, .int (nI (cntB (fun r => fitv (nI k6) w v (vlu M V w j r)) i))), (6, .int (nI i))] := hl
      refine lv_iload hx hb dX1_turned_22 (lv_at hl 6 rfl) ?_
      refine lv_bipush (v := 6) hx hb dX1_turned_24 (by decide) ?_
      refine lv_icmp_ge (tgt := 64) hx hb dX1_turned_26 (by decide) (fun c_2 => absurd c_2 (nI_ge (b := 6) hi_i (by decide))) (fun c_2 => ?_)
      refine lv_iload hx hb dX1_turned_29 (lv_at hl 5 rfl) ?_
      refine lv_aload_n hx hb dX1_turned_31 rfl (lv_at hl 0 rfl) ?_
      refine lv_iload_n hx hb dX1_turned_32 rfl (lv_at hl 1 rfl) ?_
      refine lv_iload_n hx hb dX1_turned_33 rfl (lv_at hl 2 rfl) ?_
      refine lv_iload hx hb dX1_turned_34 (lv_at hl 4 rfl) ?_
      refine lv_aload_n hx hb dX1_turned_36 rfl (lv_at hl 0 rfl) ?_
      refine lv_iload_n hx hb dX1_turned_37 rfl (lv_at hl 2 rfl) ?_
      refine lv_iload_n hx hb dX1_turned_38 rfl (lv_at hl 3 rfl) ?_
      refine lv_iload hx hb dX1_turned_39 (lv_at hl 6 rfl) ?_
      refine q_cv [.int w, .int (nI j), .int (nI i)] (rest := [.int v, .int w, .int (nI k6), .ref h, .int (nI (cntB (fun r => fitv (nI k6) w v (vlu M V w j r)) i))]) ⟨hx, hb, hml, hown, hts⟩ (mX1_code l dC dI h qb qj qm qw qt cA n rec lim fb fj fm fw ft M V w j i hM hV (by omega) (by omega)) gX1_turned_X1_code rfl rfl rfl hdX1_code ⟨Nat.le_of_ble_eq_true rfl, Nat.le_of_ble_eq_true rfl⟩ rfl hK hP rfl rfl hl.1 rfl (Nat.le_of_ble_eq_true rfl) dX1_turned_41 ⟨Nat.zero_le _, Nat.zero_le _⟩ ?_
      refine q_cv [.int (nI k6), .int w, .int v, .int (vlu M V w j i)] (rest := [.int (nI (cntB (fun r => fitv (nI k6) w v (vlu M V w j r)) i))]) ⟨hx, hb, hml, hown, hts⟩ (mX1_fit l dC dI h qb qj qm qw qt cA n rec lim fb fj fm fw ft k6 w v (vlu M V w j i) hT (by omega)) gX1_turned_X1_fit rfl rfl rfl hdX1_fit ⟨Nat.le_of_ble_eq_true rfl, Nat.le_of_ble_eq_true rfl⟩ rfl hK hP rfl rfl hl.1 rfl (Nat.le_of_ble_eq_true rfl) dX1_turned_44 ⟨Nat.zero_le _, Nat.zero_le _⟩ ?_
      refine lv_if_eq (tgt := 54) hx hb dX1_turned_47 (by decide) (fun c_3 => ?_) (fun c_3 => ?_)
      · skip
        have c_3 : (fitv (nI k6) w v (vlu M V w j i)) = false := b2i_0 c_3
        refine lv_iconst (v := 0) hx hb dX1_turned_54 (by decide) ?_
        refine lv_iadd hx hb dX1_turned_55 ?_
        refine lv_istore (lv' := [(5, .int ((nI (cntB (fun r => fitv (nI k6) w v (vlu M V w j r)) i)) + 0)), (0, .ref h), (1, .int (nI k6)), (2, .int w), (3, .int (nI j)), (4, .int v), (6, .int (nI i))]) hx hb dX1_turned_56 hl (by decide) rfl (fun ls hl => ?_)
        refine lv_iinc (v := (nI (i + 1))) (lv' := [(6, .int (nI (i + 1))), (5, .int ((nI (cntB (fun r => fitv (nI k6) w v (vlu M V w j r)) i)) + 0)), (0, .ref h), (1, .int (nI k6)), (2, .int w), (3, .int (nI j)), (4, .int v)]) hx hb dX1_turned_58 hl (k := 6) rfl (by exact nI_1 _) (by decide) rfl (fun ls hl => ?_)
        refine lv_goto (tgt := 22) hx hb dX1_turned_61 (by decide) ?_
        exact ih_i (by exact trivial) ls (q_hl (lv_sub (l' := [(0, .ref h), (1, .int (nI k6)), (2, .int w), (3, .int (nI j)), (4, .int v), (5, .int ((nI (cntB (fun r => fitv (nI k6) w v (vlu M V w j r)) i)) + 0)), (6, .int (nI (i + 1)))]) hl [2, 3, 4, 5, 6, 1, 0] rfl) (q_ck (q_ck (q_ck (q_ck (q_ck (q_ce (by simp [cntB, c_1, c_3, nI_1]) (q_ck (rfl)))))))))
      · skip
        have c_3 : (fitv (nI k6) w v (vlu M V w j i)) = true := b2i_n c_3
        refine lv_iconst (v := 1) hx hb dX1_turned_50 (by decide) ?_
        refine lv_goto (tgt := 55) hx hb dX1_turned_51 (by decide) ?_
        refine lv_iadd hx hb dX1_turned_55 ?_
        refine lv_istore (lv' := [(5, .int ((nI (cntB (fun r => fitv (nI k6) w v (vlu M V w j r)) i)) + 1)), (0, .ref h), (1, .int (nI k6)), (2, .int w), (3, .int (nI j)), (4, .int v), (6, .int (nI i))]) hx hb dX1_turned_56 hl (by decide) rfl (fun ls hl => ?_)
        refine lv_iinc (v := (nI (i + 1))) (lv' := [(6, .int (nI (i + 1))), (5, .int ((nI (cntB (fun r => fitv (nI k6) w v (vlu M V w j r)) i)) + 1)), (0, .ref h), (1, .int (nI k6)), (2, .int w), (3, .int (nI j)), (4, .int v)]) hx hb dX1_turned_58 hl (k := 6) rfl (by exact nI_1 _) (by decide) rfl (fun ls hl => ?_)
        refine lv_goto (tgt := 22) hx hb dX1_turned_61 (by decide) ?_
        exact ih_i (by exact trivial) ls (q_hl (lv_sub (l' := [(0, .ref h), (1, .int (nI k6)), (2, .int w), (3, .int (nI j)), (4, .int v), (5, .int ((nI (cntB (fun r => fitv (nI k6) w v (vlu M V w j r)) i)) + 1)), (6, .int (nI (i + 1)))]) hl [2, 3, 4, 5, 6, 1, 0] rfl) (q_ck (q_ck (q_ck (q_ck (q_ck (q_ce (by simp [cntB, c_1, c_3, nI_1]) (q_ck (rfl)))))))))
    · intro hI_i ls hl
      have hl : lv_has ls 7 [(0, .ref h), (1, .int (nI k6)), (2, .int w), (3, .int (nI j)), (4, .int v), (5, .int (nI (cntB (fun r => fitv (nI k6) w v (vlu M V w j r)) 6))), (6, .int (nI 6))] := hl
      refine lv_iload hx hb dX1_turned_22 (lv_at hl 6 rfl) ?_
      refine lv_bipush (v := 6) hx hb dX1_turned_24 (by decide) ?_
      refine lv_icmp_ge (tgt := 64) hx hb dX1_turned_26 (by decide) (fun c_4 => ?_) (fun c_4 => absurd (by decide) c_4)
      refine lv_iload hx hb dX1_turned_64 (lv_at hl 5 rfl) ?_
      exact q_ri hx hb hr hlk (by rw [aTurned, if_pos c_1, nI_clamp (by omega)]) dX1_turned_66
  · skip
    have c_1 : (qst (nI n) k w x v) = false := b2i_0 c_1
    refine lv_sipush (v := (-1000)) hx hb dX1_turned_12 (by decide) ?_
    exact q_ri hx hb hr hlk (by simp [aTurned, c_1]) dX1_turned_15

theorem hdX1_unfit : yX1_unfit.cls = RX1 ∧ yX1_unfit.cls ≠ "java/lang/invoke/MethodHandle" ∧ yX1_unfit.cls ≠ "java/lang/invoke/VarHandle" ∧ (parseMethodDescriptor yX1_unfit.desc).map (fun d => d.parameters.length) = some 5 := by decide +kernel
set_option maxHeartbeats 4000000 in
set_option maxRecDepth 100000 in
theorem mX1_unfit (l : Launch) (dC : Nat → ClassId) (dI : Nat → Nat → Nat) (h qb qj qm qw qt : Nat) (cA : ClassId) (n : Nat) (rec lim : Int32) (fb fj fm fw ft : Nat → Int32) (M : Nat → Nat → Int32) (V : Nat → Nat → Int32) (k : Nat) (w : Int32) (j : Nat) (f : Nat) (v : Int32) (hM : ∀ j r, j < 8 → r < 6 → (if nI r < fj j then fm (6 * j + r) else 0) = M j r) (hV : ∀ j r, j < 8 → r < 6 → (if nI r < fj j then fw (6 * j + r) else 100) = V j r) (hT : ft 0 = 1 ∧ ft 1 = 3 ∧ ft 2 = 4 ∧ ft 3 = 6 ∧ ft 4 = 2 ∧ ft 5 = 5) (hk : k < 6) (hj : j < 8) (hf6 : f < 6) : Met l yX1_unfit wsX1_unfit ({ frames := 2, cells := 0, slots := 0, locals := 45 }) (va_Pc [.ref h, .int (nI k), .int w, .int (nI j), .int (nI f), .int v] (fun U => va_P (dC, dI) vwCl (wY h qb qj qm qw qt cA (nI n) rec lim fb fj fm fw ft) U.heap ∧ va_K (dC, dI) vwCl [(cA, .int)] U)) (QcRead (nI (unfF (fun t => fitv (nI k) w (vlu M V w j t) v) (6 - f) f))) 0 0 (fun _ => False) := by
  refine Met.ofW (cc := cX1_unfit) (maxL := 7) (ret := (some .int)) (by decide) rfl ?_
  intro p e s m args below meth c s₁ B hml hv
  obtain ⟨rfl, hP, hK⟩ := hv
  have hx := B.exec
  have hb := B.bytes
  have hr := B.returns
  have hts := atoms_spec (ws := wsX1_unfit) B.pre
  have hown : s.vm.findClass RX1 = some m.cls := findClass_of_methodNamed B.named
  have hlk := B.notSynchronized
  have hl := lv_entry ([.ref h, .int (nI k), .int w, .int (nI j), .int (nI f), .int v]) (n := 7) (Nat.le_of_ble_eq_true rfl)
  rw [lg_entry_eq]
  generalize (lg_sl ([.ref h, .int (nI k), .int w, .int (nI j), .int (nI f), .int v]) ++ List.replicate (7 - (lg_sl ([.ref h, .int (nI k), .int w, .int (nI j), .int (nI f), .int v])).length) Slot.unset).toArray = ls at hl ⊢
  have hl : lv_has ls 7 [(0, .ref h), (1, .int (nI k)), (2, .int w), (3, .int (nI j)), (4, .int (nI f)), (5, .int v)] := hl
  refine lv_iload hx hb dX1_unfit_0 (lv_at hl 4 rfl) ?_
  refine lv_istore (lv' := [(6, .int (nI f)), (0, .ref h), (1, .int (nI k)), (2, .int w), (3, .int (nI j)), (4, .int (nI f)), (5, .int v)]) hx hb dX1_unfit_2 hl (by decide) rfl (fun ls hl => ?_)
  refine q_lp (head := 4) (6) (fun i => [(0, .ref h), (1, .int (nI k)), (2, .int w), (3, .int (nI j)), (4, .int (nI f)), (5, .int v), (6, .int (nI i))]) (fun i => f ≤ i ∧ unfF (fun t => fitv (nI k) w (vlu M V w j t) v) (6 - f) f = (i - f) + unfF (fun t => fitv (nI k) w (vlu M V w j t) v) (6 - i) i) (f) (by omega) (by constructor <;> simp) (lv_sub (l' := [(0, .ref h), (1, .int (nI k)), (2, .int w), (3, .int (nI j)), (4, .int (nI f)), (5, .int v), (6, .int (nI f))]) hl [1, 2, 3, 4, 5, 6, 0] rfl) ?_ ?_
  · intro i hi_i hI_i ih_i ls hl
    have hl : lv_has ls 7 [(0, .ref h), (1, .int (nI k)), (2, .int w), (3, .int (nI j)), (4, .int (nI f)), (5, .int v), (6, .int (nI i))] := hl
    refine lv_iload hx hb dX1_unfit_4 (lv_at hl 6 rfl) ?_
    refine lv_bipush (v := 6) hx hb dX1_unfit_6 (by decide) ?_
    refine lv_icmp_ge (tgt := 36) hx hb dX1_unfit_8 (by decide) (fun c_1 => absurd c_1 (nI_ge (b := 6) hi_i (by decide))) (fun c_1 => ?_)
    refine lv_aload_n hx hb dX1_unfit_11 rfl (lv_at hl 0 rfl) ?_
    refine lv_iload_n hx hb dX1_unfit_12 rfl (lv_at hl 1 rfl) ?_
    refine lv_iload_n hx hb dX1_unfit_13 rfl (lv_at hl 2 rfl) ?_
    refine lv_aload_n hx hb dX1_unfit_14 rfl (lv_at hl 0 rfl) ?_
    refine lv_iload_n hx hb dX1_unfit_15 rfl (lv_at hl 2 rfl) ?_
    refine lv_iload_n hx hb dX1_unfit_16 rfl (lv_at hl 3 rfl) ?_
    refine lv_iload hx hb dX1_unfit_17 (lv_at hl 6 rfl) ?_
    refine q_cv [.int w, .int (nI j), .int (nI i)] (rest := [.int w, .int (nI k), .ref h]) ⟨hx, hb, hml, hown, hts⟩ (mX1_code l dC dI h qb qj qm qw qt cA n rec lim fb fj fm fw ft M V w j i hM hV (by omega) (by omega)) gX1_unfit_X1_code rfl rfl rfl hdX1_code ⟨Nat.le_of_ble_eq_true rfl, Nat.le_of_ble_eq_true rfl⟩ rfl hK hP rfl rfl hl.1 rfl (Nat.le_of_ble_eq_true rfl) dX1_unfit_19 ⟨Nat.zero_le _, Nat.zero_le _⟩ ?_
    refine lv_iload hx hb dX1_unfit_22 (lv_at hl 5 rfl) ?_
    refine q_cv [.int (nI k), .int w, .int (vlu M V w j i), .int v] (rest := []) ⟨hx, hb, hml, hown, hts⟩ (mX1_fit l dC dI h qb qj qm qw qt cA n rec lim fb fj fm fw ft k w (vlu M V w j i) v hT (by omega)) gX1_unfit_X1_fit rfl rfl rfl hdX1_fit ⟨Nat.le_of_ble_eq_true rfl, Nat.le_of_ble_eq_true rfl⟩ rfl hK hP rfl rfl hl.1 rfl (Nat.le_of_ble_eq_true rfl) dX1_unfit_24 ⟨Nat.zero_le _, Nat.zero_le _⟩ ?_
    refine lv_if_ne (tgt := 36) hx hb dX1_unfit_27 (by decide) (fun c_2 => ?_) (fun c_2 => ?_)
    · skip
      have c_2 : (fitv (nI k) w (vlu M V w j i) v) = true := b2i_n c_2
      refine lv_iload hx hb dX1_unfit_36 (lv_at hl 6 rfl) ?_
      refine lv_iload hx hb dX1_unfit_38 (lv_at hl 4 rfl) ?_
      refine lv_isub hx hb dX1_unfit_40 ?_
      exact q_ri hx hb hr hlk (by first | exact unf_hit hi_i hI_i (by simp [c_2]) | exact unf_end hI_i) dX1_unfit_41
    · skip
      have c_2 : (fitv (nI k) w (vlu M V w j i) v) = false := b2i_0 c_2
      refine lv_iinc (v := (nI (i + 1))) (lv' := [(6, .int (nI (i + 1))), (0, .ref h), (1, .int (nI k)), (2, .int w), (3, .int (nI j)), (4, .int (nI f)), (5, .int v)]) hx hb dX1_unfit_30 hl (k := 6) rfl (by exact nI_1 _) (by decide) rfl (fun ls hl => ?_)
      refine lv_goto (tgt := 4) hx hb dX1_unfit_33 (by decide) ?_
      exact ih_i (by exact unf_step hi_i hI_i (by simp [c_2])) ls (lv_sub (l' := [(0, .ref h), (1, .int (nI k)), (2, .int w), (3, .int (nI j)), (4, .int (nI f)), (5, .int v), (6, .int (nI (i + 1)))]) hl [1, 2, 3, 4, 5, 6, 0] rfl)
  · intro hI_i ls hl
    have hl : lv_has ls 7 [(0, .ref h), (1, .int (nI k)), (2, .int w), (3, .int (nI j)), (4, .int (nI f)), (5, .int v), (6, .int (nI 6))] := hl
    refine lv_iload hx hb dX1_unfit_4 (lv_at hl 6 rfl) ?_
    refine lv_bipush (v := 6) hx hb dX1_unfit_6 (by decide) ?_
    refine lv_icmp_ge (tgt := 36) hx hb dX1_unfit_8 (by decide) (fun c_3 => ?_) (fun c_3 => absurd (by decide) c_3)
    refine lv_iload hx hb dX1_unfit_36 (lv_at hl 6 rfl) ?_
    refine lv_iload hx hb dX1_unfit_38 (lv_at hl 4 rfl) ?_
    refine lv_isub hx hb dX1_unfit_40 ?_
    exact q_ri hx hb hr hlk (by first | exact unf_hit hi_i hI_i (by simp []) | exact unf_end hI_i) dX1_unfit_41

theorem hdX1_longest : yX1_longest.cls = RX1 ∧ yX1_longest.cls ≠ "java/lang/invoke/MethodHandle" ∧ yX1_longest.cls ≠ "java/lang/invoke/VarHandle" ∧ (parseMethodDescriptor yX1_longest.desc).map (fun d => d.parameters.length) = some 4 := by decide +kernel
set_option maxHeartbeats 4000000 in
set_option maxRecDepth 100000 in
theorem mX1_longest (l : Launch) (dC : Nat → ClassId) (dI : Nat → Nat → Nat) (h qb qj qm qw qt : Nat) (cA : ClassId) (n : Nat) (rec lim : Int32) (fb fj fm fw ft : Nat → Int32) (M : Nat → Nat → Int32) (V : Nat → Nat → Int32) (k : Int32) (w : Int32) (x : Int32) (v : Int32) (hM : ∀ j r, j < 8 → r < 6 → (if nI r < fj j then fm (6 * j + r) else 0) = M j r) (hV : ∀ j r, j < 8 → r < 6 → (if nI r < fj j then fw (6 * j + r) else 100) = V j r) (hT : ft 0 = 1 ∧ ft 1 = 3 ∧ ft 2 = 4 ∧ ft 3 = 6 ∧ ft 4 = 2 ∧ ft 5 = 5) (hn : n ≤ 8) : Met l yX1_longest wsX1_longest ({ frames := 4, cells := 0, slots := 0, locals := 90 }) (va_Pc [.ref h, .int k, .int w, .int x, .int v] (fun U => va_P (dC, dI) vwCl (wY h qb qj qm qw qt cA (nI n) rec lim fb fj fm fw ft) U.heap ∧ va_K (dC, dI) vwCl [(cA, .int)] U)) (QcRead (aLongest M V (nI n) k w x v)) 0 0 (fun _ => False) := by
  refine Met.ofW (cc := cX1_longest) (maxL := 8) (ret := (some .int)) (by decide) rfl ?_
  intro p e s m args below meth c s₁ B hml hv
  obtain ⟨rfl, hP, hK⟩ := hv
  have hx := B.exec
  have hb := B.bytes
  have hr := B.returns
  have hts := atoms_spec (ws := wsX1_longest) B.pre
  have hown : s.vm.findClass RX1 = some m.cls := findClass_of_methodNamed B.named
  have hlk := B.notSynchronized
  have hl := lv_entry ([.ref h, .int k, .int w, .int x, .int v]) (n := 8) (Nat.le_of_ble_eq_true rfl)
  rw [lg_entry_eq]
  generalize (lg_sl ([.ref h, .int k, .int w, .int x, .int v]) ++ List.replicate (8 - (lg_sl ([.ref h, .int k, .int w, .int x, .int v])).length) Slot.unset).toArray = ls at hl ⊢
  have hl : lv_has ls 8 [(0, .ref h), (1, .int k), (2, .int w), (3, .int x), (4, .int v)] := hl
  refine lv_aload_n hx hb dX1_longest_0 rfl (lv_at hl 0 rfl) ?_
  refine lv_iload_n hx hb dX1_longest_1 rfl (lv_at hl 1 rfl) ?_
  refine lv_iload_n hx hb dX1_longest_2 rfl (lv_at hl 2 rfl) ?_
  refine lv_iload_n hx hb dX1_longest_3 rfl (lv_at hl 3 rfl) ?_
  refine lv_iload hx hb dX1_longest_4 (lv_at hl 4 rfl) ?_
  refine q_cv [.int k, .int w, .int x, .int v] (rest := []) ⟨hx, hb, hml, hown, hts⟩ (mX1_isAskedOf l dC dI h qb qj qm qw qt cA n rec lim fb fj fm fw ft k w x v (by omega)) gX1_longest_X1_isAskedOf rfl rfl rfl hdX1_isAskedOf ⟨Nat.le_of_ble_eq_true rfl, Nat.le_of_ble_eq_true rfl⟩ rfl hK hP rfl rfl hl.1 rfl (Nat.le_of_ble_eq_true rfl) dX1_longest_6 ⟨Nat.zero_le _, Nat.zero_le _⟩ ?_
  refine lv_if_ne (tgt := 16) hx hb dX1_longest_9 (by decide) (fun c_1 => ?_) (fun c_1 => ?_)
  · skip
    have c_1 : (qst (nI n) k w x v) = true := b2i_n c_1
    obtain ⟨j, hj, rfl⟩ := jmp_of (qst_j c_1) hn
    obtain ⟨k6, hk6, rfl⟩ := hwo_of (qst_h c_1)
    refine lv_iconst (v := 0) hx hb dX1_longest_16 (by decide) ?_
    refine lv_istore (lv' := [(5, .int 0), (0, .ref h), (1, .int (nI k6)), (2, .int w), (3, .int (nI j)), (4, .int v)]) hx hb dX1_longest_17 hl (by decide) rfl (fun ls hl => ?_)
    refine lv_iconst (v := 0) hx hb dX1_longest_19 (by decide) ?_
    refine lv_istore (lv' := [(6, .int 0), (5, .int 0), (0, .ref h), (1, .int (nI k6)), (2, .int w), (3, .int (nI j)), (4, .int v)]) hx hb dX1_longest_20 hl (by decide) rfl (fun ls hl => ?_)
    refine q_lp (head := 22) (6) (fun i => [(0, .ref h), (1, .int (nI k6)), (2, .int w), (3, .int (nI j)), (4, .int v), (5, .int (nI (mxU (fun t => fitv (nI k6) w (vlu M V w j t) v) i))), (6, .int (nI i))]) (fun i => True) (0) (by omega) (trivial) (q_hl (lv_sub (l' := [(0, .ref h), (1, .int (nI k6)), (2, .int w), (3, .int (nI j)), (4, .int v), (5, .int 0), (6, .int 0)]) hl [2, 3, 4, 5, 6, 1, 0] rfl) (q_ck (q_ck (q_ck (q_ck (q_ck (q_ce (by rfl) (q_ce (by rfl) (rfl))))))))) ?_ ?_
    · intro i hi_i hI_i ih_i ls hl
      have hl : lv_has ls 8 [(0, .ref h), (1, .int (nI k6)), (2, .int w), (3, .int (nI j)), (4, .int v), (5, .int (nI (mxU (fun t => fitv (nI k6) w (vlu M V w j t) v) i))), (6, .int (nI i))] := hl
      refine lv_iload hx hb dX1_longest_22 (lv_at hl 6 rfl) ?_
      refine lv_bipush (v := 6) hx hb dX1_longest_24 (by decide) ?_
      refine lv_icmp_ge (tgt := 64) hx hb dX1_longest_26 (by decide) (fun c_2 => absurd c_2 (nI_ge (b := 6) hi_i (by decide))) (fun c_2 => ?_)
      refine lv_aload_n hx hb dX1_longest_29 rfl (lv_at hl 0 rfl) ?_
      refine lv_iload_n hx hb dX1_longest_30 rfl (lv_at hl 1 rfl) ?_
      refine lv_iload_n hx hb dX1_longest_31 rfl (lv_at hl 2 rfl) ?_
      refine lv_iload_n hx hb dX1_longest_32 rfl (lv_at hl 3 rfl) ?_
      refine lv_iload hx hb dX1_longest_33 (lv_at hl 6 rfl) ?_
      refine lv_iload hx hb dX1_longest_35 (lv_at hl 4 rfl) ?_
      refine q_cv [.int (nI k6), .int w, .int (nI j), .int (nI i), .int v] (rest := []) ⟨hx, hb, hml, hown, hts⟩ (mX1_unfit l dC dI h qb qj qm qw qt cA n rec lim fb fj fm fw ft M V k6 w j i v hM hV hT (by omega) (by omega) (by omega)) gX1_longest_X1_unfit rfl rfl rfl hdX1_unfit ⟨Nat.le_of_ble_eq_true rfl, Nat.le_of_ble_eq_true rfl⟩ rfl hK hP rfl rfl hl.1 rfl (Nat.le_of_ble_eq_true rfl) dX1_longest_37 ⟨Nat.zero_le _, Nat.zero_le _⟩ ?_
      refine lv_istore (lv' := [(7, .int (nI (unfF (fun t => fitv (nI k6) w (vlu M V w j t) v) (6 - i) i))), (0, .ref h), (1, .int (nI k6)), (2, .int w), (3, .int (nI j)), (4, .int v), (5, .int (nI (mxU (fun t => fitv (nI k6) w (vlu M V w j t) v) i))), (6, .int (nI i))]) hx hb dX1_longest_40 hl (by decide) rfl (fun ls hl => ?_)
      refine lv_iload hx hb dX1_longest_42 (lv_at hl 0 rfl) ?_
      refine lv_iload hx hb dX1_longest_44 (lv_at hl 6 rfl) ?_
      refine q_jn (pj := 56) (v := nI (mxU (fun t => fitv (nI k6) w (vlu M V w j t) v) (i + 1))) (rest := []) ?_ (fun J => ?_)
      rotate_left
      · skip
        refine lv_icmp_le (tgt := 54) hx hb dX1_longest_46 (by decide) (fun c_3 => ?_) (fun c_3 => ?_)
        · skip
          refine lv_iload hx hb dX1_longest_54 (lv_at hl 6 rfl) ?_
          exact q_top (by first | exact mxU_le hi_i c_3 | exact mxU_gt hi_i c_3) J
        · skip
          refine lv_iload hx hb dX1_longest_49 (lv_at hl 0 rfl) ?_
          refine lv_goto (tgt := 56) hx hb dX1_longest_51 (by decide) ?_
          exact q_top (by first | exact mxU_le hi_i c_3 | exact mxU_gt hi_i c_3) J
      refine lv_istore (lv' := [(5, .int (nI (mxU (fun t => fitv (nI k6) w (vlu M V w j t) v) (i + 1)))), (7, .int (nI (unfF (fun t => fitv (nI k6) w (vlu M V w j t) v) (6 - i) i))), (0, .ref h), (1, .int (nI k6)), (2, .int w), (3, .int (nI j)), (4, .int v), (6, .int (nI i))]) hx hb dX1_longest_56 hl (by decide) rfl (fun ls hl => ?_)
      refine lv_iinc (v := (nI (i + 1))) (lv' := [(6, .int (nI (i + 1))), (5, .int (nI (mxU (fun t => fitv (nI k6) w (vlu M V w j t) v) (i + 1)))), (7, .int (nI (unfF (fun t => fitv (nI k6) w (vlu M V w j t) v) (6 - i) i))), (0, .ref h), (1, .int (nI k6)), (2, .int w), (3, .int (nI j)), (4, .int v)]) hx hb dX1_longest_58 hl (k := 7) rfl (by exact nI_1 _) (by decide) rfl (fun ls hl => ?_)
      refine lv_goto (tgt := 22) hx hb dX1_longest_61 (by decide) ?_
      exact ih_i (by exact trivial) ls (lv_sub (l' := [(0, .ref h), (1, .int (nI k6)), (2, .int w), (3, .int (nI j)), (4, .int v), (5, .int (nI (mxU (fun t => fitv (nI k6) w (vlu M V w j t) v) (i + 1)))), (6, .int (nI (i + 1)))]) hl [3, 4, 5, 6, 7, 1, 0] rfl)
    · intro hI_i ls hl
      have hl : lv_has ls 8 [(0, .ref h), (1, .int (nI k6)), (2, .int w), (3, .int (nI j)), (4, .int v), (5, .int (nI (mxU (fun t => fitv (nI k6) w (vlu M V w j t) v) 6))), (6, .int (nI 6))] := hl
      refine lv_iload hx hb dX1_longest_22 (lv_at hl 6 rfl) ?_
      refine lv_bipush (v := 6) hx hb dX1_longest_24 (by decide) ?_
      refine lv_icmp_ge (tgt := 64) hx hb dX1_longest_26 (by decide) (fun c_4 => ?_) (fun c_4 => absurd (by decide) c_4)
      refine lv_iload hx hb dX1_longest_64 (lv_at hl 5 rfl) ?_
      exact q_ri hx hb hr hlk (by rw [aLongest, if_pos c_1, nI_clamp (by omega), ← mx_most]) dX1_longest_66
  · skip
    have c_1 : (qst (nI n) k w x v) = false := b2i_0 c_1
    refine lv_sipush (v := (-1000)) hx hb dX1_longest_12 (by decide) ?_
    exact q_ri hx hb hr hlk (by simp [aLongest, c_1]) dX1_longest_15

theorem hdX1_skip : yX1_skip.cls = RX1 ∧ yX1_skip.cls ≠ "java/lang/invoke/MethodHandle" ∧ yX1_skip.cls ≠ "java/lang/invoke/VarHandle" ∧ (parseMethodDescriptor yX1_skip.desc).map (fun d => d.parameters.length) = some 5 := by decide +kernel
set_option maxHeartbeats 4000000 in
set_option maxRecDepth 100000 in
theorem mX1_skip (l : Launch) (dC : Nat → ClassId) (dI : Nat → Nat → Nat) (h qb qj qm qw qt : Nat) (cA : ClassId) (n : Nat) (rec lim : Int32) (fb fj fm fw ft : Nat → Int32) (M : Nat → Nat → Int32) (V : Nat → Nat → Int32) (k : Int32) (w : Int32) (x : Int32) (f : Int32) (v : Int32) (hM : ∀ j r, j < 8 → r < 6 → (if nI r < fj j then fm (6 * j + r) else 0) = M j r) (hV : ∀ j r, j < 8 → r < 6 → (if nI r < fj j then fw (6 * j + r) else 100) = V j r) (hT : ft 0 = 1 ∧ ft 1 = 3 ∧ ft 2 = 4 ∧ ft 3 = 6 ∧ ft 4 = 2 ∧ ft 5 = 5) (hn : n ≤ 8) : Met l yX1_skip wsX1_skip ({ frames := 4, cells := 0, slots := 0, locals := 90 }) (va_Pc [.ref h, .int k, .int w, .int x, .int f, .int v] (fun U => va_P (dC, dI) vwCl (wY h qb qj qm qw qt cA (nI n) rec lim fb fj fm fw ft) U.heap ∧ va_K (dC, dI) vwCl [(cA, .int)] U)) (QcRead (aSkip M V (nI n) k w x f v)) 0 0 (fun _ => False) := by
  refine Met.ofW (cc := cX1_skip) (maxL := 8) (ret := (some .int)) (by decide) rfl ?_
  intro p e s m args below meth c s₁ B hml hv
  obtain ⟨rfl, hP, hK⟩ := hv
  have hx := B.exec
  have hb := B.bytes
  have hr := B.returns
  have hts := atoms_spec (ws := wsX1_skip) B.pre
  have hown : s.vm.findClass RX1 = some m.cls := findClass_of_methodNamed B.named
  have hlk := B.notSynchronized
  have hl := lv_entry ([.ref h, .int k, .int w, .int x, .int f, .int v]) (n := 8) (Nat.le_of_ble_eq_true rfl)
  rw [lg_entry_eq]
  generalize (lg_sl ([.ref h, .int k, .int w, .int x, .int f, .int v]) ++ List.replicate (8 - (lg_sl ([.ref h, .int k, .int w, .int x, .int f, .int v])).length) Slot.unset).toArray = ls at hl ⊢
  have hl : lv_has ls 8 [(0, .ref h), (1, .int k), (2, .int w), (3, .int x), (4, .int f), (5, .int v)] := hl
  refine lv_aload_n hx hb dX1_skip_0 rfl (lv_at hl 0 rfl) ?_
  refine lv_iload_n hx hb dX1_skip_1 rfl (lv_at hl 1 rfl) ?_
  refine lv_iload_n hx hb dX1_skip_2 rfl (lv_at hl 2 rfl) ?_
  refine lv_iload_n hx hb dX1_skip_3 rfl (lv_at hl 3 rfl) ?_
  refine lv_iload hx hb dX1_skip_4 (lv_at hl 5 rfl) ?_
  refine q_cv [.int k, .int w, .int x, .int v] (rest := []) ⟨hx, hb, hml, hown, hts⟩ (mX1_isAskedOf l dC dI h qb qj qm qw qt cA n rec lim fb fj fm fw ft k w x v (by omega)) gX1_skip_X1_isAskedOf rfl rfl rfl hdX1_isAskedOf ⟨Nat.le_of_ble_eq_true rfl, Nat.le_of_ble_eq_true rfl⟩ rfl hK hP rfl rfl hl.1 rfl (Nat.le_of_ble_eq_true rfl) dX1_skip_6 ⟨Nat.zero_le _, Nat.zero_le _⟩ ?_
  refine lv_if_eq (tgt := 20) hx hb dX1_skip_9 (by decide) (fun c_1 => ?_) (fun c_1 => ?_)
  · skip
    have c_1 : (qst (nI n) k w x v) = false := b2i_0 c_1
    refine lv_sipush (v := (-1000)) hx hb dX1_skip_20 (by decide) ?_
    exact q_ri hx hb hr hlk (by simp [aSkip, c_1]) dX1_skip_23
  · skip
    have c_1 : (qst (nI n) k w x v) = true := b2i_n c_1
    refine lv_iload hx hb dX1_skip_12 (lv_at hl 4 rfl) ?_
    refine q_cs [.int f] (rest := []) ⟨hx, hb, hml, hown, hts⟩ (mX1_isRound l f) gX1_skip_X1_isRound rfl rfl rfl hdX1_isRound ⟨Nat.le_of_ble_eq_true rfl, Nat.le_of_ble_eq_true rfl⟩ rfl hl.1 rfl (Nat.le_of_ble_eq_true rfl) dX1_skip_14 ⟨Nat.zero_le _, Nat.zero_le _⟩ ?_
    refine lv_if_ne (tgt := 24) hx hb dX1_skip_17 (by decide) (fun c_2 => ?_) (fun c_2 => ?_)
    · skip
      have c_2 : (rnd f) = true := b2i_n c_2
      obtain ⟨j, hj, rfl⟩ := jmp_of (qst_j c_1) hn
      obtain ⟨k6, hk6, rfl⟩ := hwo_of (qst_h c_1)
      obtain ⟨f6, hf6, rfl⟩ := rnd_of c_2
      refine lv_bipush (v := 6) hx hb dX1_skip_24 (by decide) ?_
      refine lv_istore (lv' := [(6, .int 6), (0, .ref h), (1, .int (nI k6)), (2, .int w), (3, .int (nI j)), (4, .int (nI f6)), (5, .int v)]) hx hb dX1_skip_26 hl (by decide) rfl (fun ls hl => ?_)
      refine lv_iconst (v := 5) hx hb dX1_skip_28 (by decide) ?_
      refine lv_istore (lv' := [(7, .int 5), (6, .int 6), (0, .ref h), (1, .int (nI k6)), (2, .int w), (3, .int (nI j)), (4, .int (nI f6)), (5, .int v)]) hx hb dX1_skip_29 hl (by decide) rfl (fun ls hl => ?_)
      refine q_lp (head := 31) (6 - f6) (fun i => [(0, .ref h), (1, .int (nI k6)), (2, .int w), (3, .int (nI j)), (4, .int (nI f6)), (5, .int v), (6, .int (nI (skpF (fun t => fitv (nI k6) w (vlu M V w j t) v) i (6 - i)))), (7, .int (nI (6 - i) + (-1)))]) (fun i => True) (0) (by omega) (trivial) (q_hl (lv_sub (l' := [(0, .ref h), (1, .int (nI k6)), (2, .int w), (3, .int (nI j)), (4, .int (nI f6)), (5, .int v), (6, .int 6), (7, .int 5)]) hl [2, 3, 4, 5, 6, 7, 1, 0] rfl) (q_ck (q_ck (q_ck (q_ck (q_ck (q_ck (q_ce (by rfl) (q_ce (by decide) (rfl)))))))))) ?_ ?_
      · intro i hi_i hI_i ih_i ls hl
        have hl : lv_has ls 8 [(0, .ref h), (1, .int (nI k6)), (2, .int w), (3, .int (nI j)), (4, .int (nI f6)), (5, .int v), (6, .int (nI (skpF (fun t => fitv (nI k6) w (vlu M V w j t) v) i (6 - i)))), (7, .int (nI (6 - i) + (-1)))] := hl
        refine lv_iload hx hb dX1_skip_31 (lv_at hl 7 rfl) ?_
        refine lv_iload hx hb dX1_skip_33 (lv_at hl 4 rfl) ?_
        refine lv_icmp_lt (tgt := 72) hx hb dX1_skip_35 (by decide) (fun c_3 => absurd c_3 (by rw [sb_m1 (by omega)]; exact nI_nlt (by omega) (by omega))) (fun c_3 => ?_)
        have e7 : nI (6 - i) + (-1) = nI (6 - i - 1) := sb_m1 (by omega)
        rw [e7] at hl
        refine lv_aload_n hx hb dX1_skip_38 rfl (lv_at hl 0 rfl) ?_
        refine lv_iload_n hx hb dX1_skip_39 rfl (lv_at hl 1 rfl) ?_
        refine lv_iload_n hx hb dX1_skip_40 rfl (lv_at hl 2 rfl) ?_
        refine lv_aload_n hx hb dX1_skip_41 rfl (lv_at hl 0 rfl) ?_
        refine lv_iload_n hx hb dX1_skip_42 rfl (lv_at hl 2 rfl) ?_
        refine lv_iload_n hx hb dX1_skip_43 rfl (lv_at hl 3 rfl) ?_
        refine lv_iload hx hb dX1_skip_44 (lv_at hl 7 rfl) ?_
        refine q_cv [.int w, .int (nI j), .int (nI (6 - i - 1))] (rest := [.int w, .int (nI k6), .ref h]) ⟨hx, hb, hml, hown, hts⟩ (mX1_code l dC dI h qb qj qm qw qt cA n rec lim fb fj fm fw ft M V w j (6 - i - 1) hM hV (by omega) (by omega)) gX1_skip_X1_code rfl rfl rfl hdX1_code ⟨Nat.le_of_ble_eq_true rfl, Nat.le_of_ble_eq_true rfl⟩ rfl hK hP rfl rfl hl.1 rfl (Nat.le_of_ble_eq_true rfl) dX1_skip_46 ⟨Nat.zero_le _, Nat.zero_le _⟩ ?_
        refine lv_iload hx hb dX1_skip_49 (lv_at hl 5 rfl) ?_
        refine q_cv [.int (nI k6), .int w, .int (vlu M V w j (6 - i - 1)), .int v] (rest := []) ⟨hx, hb, hml, hown, hts⟩ (mX1_fit l dC dI h qb qj qm qw qt cA n rec lim fb fj fm fw ft k6 w (vlu M V w j (6 - i - 1)) v hT (by omega)) gX1_skip_X1_fit rfl rfl rfl hdX1_fit ⟨Nat.le_of_ble_eq_true rfl, Nat.le_of_ble_eq_true rfl⟩ rfl hK hP rfl rfl hl.1 rfl (Nat.le_of_ble_eq_true rfl) dX1_skip_51 ⟨Nat.zero_le _, Nat.zero_le _⟩ ?_
        refine lv_if_eq (tgt := 62) hx hb dX1_skip_54 (by decide) (fun c_4 => ?_) (fun c_4 => ?_)
        · skip
          have c_4 : (fitv (nI k6) w (vlu M V w j (6 - i - 1)) v) = false := b2i_0 c_4
          refine lv_iload hx hb dX1_skip_62 (lv_at hl 7 rfl) ?_
          refine lv_istore (lv' := [(6, .int (nI (6 - i - 1))), (0, .ref h), (1, .int (nI k6)), (2, .int w), (3, .int (nI j)), (4, .int (nI f6)), (5, .int v), (7, .int (nI (6 - i - 1)))]) hx hb dX1_skip_64 hl (by decide) rfl (fun ls hl => ?_)
          refine lv_iinc (v := ((nI (6 - i - 1)) + (-1))) (lv' := [(7, .int ((nI (6 - i - 1)) + (-1))), (6, .int (nI (6 - i - 1))), (0, .ref h), (1, .int (nI k6)), (2, .int w), (3, .int (nI j)), (4, .int (nI f6)), (5, .int v)]) hx hb dX1_skip_66 hl (k := 7) rfl (by rfl) (by decide) rfl (fun ls hl => ?_)
          refine lv_goto (tgt := 31) hx hb dX1_skip_69 (by decide) ?_
          exact ih_i (by exact trivial) ls (q_hl (lv_sub (l' := [(0, .ref h), (1, .int (nI k6)), (2, .int w), (3, .int (nI j)), (4, .int (nI f6)), (5, .int v), (6, .int (nI (6 - i - 1))), (7, .int ((nI (6 - i - 1)) + (-1)))]) hl [2, 3, 4, 5, 6, 7, 1, 0] rfl) (q_ck (q_ck (q_ck (q_ck (q_ck (q_ck (q_ce (by rw [show 6 - (i + 1) = 6 - i - 1 from rfl, skpF, show 6 - i - 1 + 1 = 6 - i by omega]; simp [c_1, c_2, c_4]) (q_ce (by rfl) (rfl))))))))))
        · skip
          have c_4 : (fitv (nI k6) w (vlu M V w j (6 - i - 1)) v) = true := b2i_n c_4
          refine lv_iload hx hb dX1_skip_57 (lv_at hl 6 rfl) ?_
          refine lv_goto (tgt := 64) hx hb dX1_skip_59 (by decide) ?_
          refine lv_istore (lv' := [(6, .int (nI (skpF (fun t => fitv (nI k6) w (vlu M V w j t) v) i (6 - i)))), (0, .ref h), (1, .int (nI k6)), (2, .int w), (3, .int (nI j)), (4, .int (nI f6)), (5, .int v), (7, .int (nI (6 - i - 1)))]) hx hb dX1_skip_64 hl (by decide) rfl (fun ls hl => ?_)
          refine lv_iinc (v := ((nI (6 - i - 1)) + (-1))) (lv' := [(7, .int ((nI (6 - i - 1)) + (-1))), (6, .int (nI (skpF (fun t => fitv (nI k6) w (vlu M V w j t) v) i (6 - i)))), (0, .ref h), (1, .int (nI k6)), (2, .int w), (3, .int (nI j)), (4, .int (nI f6)), (5, .int v)]) hx hb dX1_skip_66 hl (k := 7) rfl (by rfl) (by decide) rfl (fun ls hl => ?_)
          refine lv_goto (tgt := 31) hx hb dX1_skip_69 (by decide) ?_
          exact ih_i (by exact trivial) ls (q_hl (lv_sub (l' := [(0, .ref h), (1, .int (nI k6)), (2, .int w), (3, .int (nI j)), (4, .int (nI f6)), (5, .int v), (6, .int (nI (skpF (fun t => fitv (nI k6) w (vlu M V w j t) v) i (6 - i)))), (7, .int ((nI (6 - i - 1)) + (-1)))]) hl [2, 3, 4, 5, 6, 7, 1, 0] rfl) (q_ck (q_ck (q_ck (q_ck (q_ck (q_ck (q_ce (by rw [show 6 - (i + 1) = 6 - i - 1 from rfl, skpF, show 6 - i - 1 + 1 = 6 - i by omega]; simp [c_1, c_2, c_4]) (q_ce (by rfl) (rfl))))))))))
      · intro hI_i ls hl
        have hl : lv_has ls 8 [(0, .ref h), (1, .int (nI k6)), (2, .int w), (3, .int (nI j)), (4, .int (nI f6)), (5, .int v), (6, .int (nI (skpF (fun t => fitv (nI k6) w (vlu M V w j t) v) (6 - f6) (6 - (6 - f6))))), (7, .int (nI (6 - (6 - f6)) + (-1)))] := hl
        refine lv_iload hx hb dX1_skip_31 (lv_at hl 7 rfl) ?_
        refine lv_iload hx hb dX1_skip_33 (lv_at hl 4 rfl) ?_
        refine lv_icmp_lt (tgt := 72) hx hb dX1_skip_35 (by decide) (fun c_5 => ?_) (fun c_5 => absurd (pm1_lt hf6) c_5)
        refine lv_iload hx hb dX1_skip_72 (lv_at hl 6 rfl) ?_
        exact q_ri hx hb hr hlk (by rw [aSkip, if_pos (by simp [c_1, c_2]), nI_clamp (by omega), nI_clamp (by omega), show 6 - (6 - f6) = f6 by omega]) dX1_skip_74
    · skip
      have c_2 : (rnd f) = false := b2i_0 c_2
      refine lv_sipush (v := (-1000)) hx hb dX1_skip_20 (by decide) ?_
      exact q_ri hx hb hr hlk (by simp [aSkip, c_1, c_2]) dX1_skip_23

theorem hdX1_pick : yX1_pick.cls = RX1 ∧ yX1_pick.cls ≠ "java/lang/invoke/MethodHandle" ∧ yX1_pick.cls ≠ "java/lang/invoke/VarHandle" ∧ (parseMethodDescriptor yX1_pick.desc).map (fun d => d.parameters.length) = some 4 := by decide +kernel
set_option maxHeartbeats 4000000 in
set_option maxRecDepth 100000 in
theorem mX1_pick (l : Launch) (dC : Nat → ClassId) (dI : Nat → Nat → Nat) (h qb qj qm qw qt : Nat) (cA : ClassId) (n : Nat) (rec lim : Int32) (fb fj fm fw ft : Nat → Int32) (M : Nat → Nat → Int32) (V : Nat → Nat → Int32) (k : Int32) (w : Int32) (x : Int32) (v : Int32) (hM : ∀ j r, j < 8 → r < 6 → (if nI r < fj j then fm (6 * j + r) else 0) = M j r) (hV : ∀ j r, j < 8 → r < 6 → (if nI r < fj j then fw (6 * j + r) else 100) = V j r) (hT : ft 0 = 1 ∧ ft 1 = 3 ∧ ft 2 = 4 ∧ ft 3 = 6 ∧ ft 4 = 2 ∧ ft 5 = 5) (hn : n ≤ 8) : Met l yX1_pick wsX1_pick ({ frames := 4, cells := 0, slots := 0, locals := 90 }) (va_Pc [.ref h, .int k, .int w, .int x, .int v] (fun U => va_P (dC, dI) vwCl (wY h qb qj qm qw qt cA (nI n) rec lim fb fj fm fw ft) U.heap ∧ va_K (dC, dI) vwCl [(cA, .int)] U)) (QcRead (aPick M V (nI n) k w x v)) 0 0 (fun _ => False) := by
  refine Met.ofW (cc := cX1_pick) (maxL := 8) (ret := (some .int)) (by decide) rfl ?_
  intro p e s m args below meth c s₁ B hml hv
  obtain ⟨rfl, hP, hK⟩ := hv
  have hx := B.exec
  have hb := B.bytes
  have hr := B.returns
  have hts := atoms_spec (ws := wsX1_pick) B.pre
  have hown : s.vm.findClass RX1 = some m.cls := findClass_of_methodNamed B.named
  have hlk := B.notSynchronized
  have hl := lv_entry ([.ref h, .int k, .int w, .int x, .int v]) (n := 8) (Nat.le_of_ble_eq_true rfl)
  rw [lg_entry_eq]
  generalize (lg_sl ([.ref h, .int k, .int w, .int x, .int v]) ++ List.replicate (8 - (lg_sl ([.ref h, .int k, .int w, .int x, .int v])).length) Slot.unset).toArray = ls at hl ⊢
  have hl : lv_has ls 8 [(0, .ref h), (1, .int k), (2, .int w), (3, .int x), (4, .int v)] := hl
  refine lv_aload_n hx hb dX1_pick_0 rfl (lv_at hl 0 rfl) ?_
  refine lv_iload_n hx hb dX1_pick_1 rfl (lv_at hl 1 rfl) ?_
  refine lv_iload_n hx hb dX1_pick_2 rfl (lv_at hl 2 rfl) ?_
  refine lv_iload_n hx hb dX1_pick_3 rfl (lv_at hl 3 rfl) ?_
  refine lv_iload hx hb dX1_pick_4 (lv_at hl 4 rfl) ?_
  refine q_cv [.int k, .int w, .int x, .int v] (rest := []) ⟨hx, hb, hml, hown, hts⟩ (mX1_isAskedOf l dC dI h qb qj qm qw qt cA n rec lim fb fj fm fw ft k w x v (by omega)) gX1_pick_X1_isAskedOf rfl rfl rfl hdX1_isAskedOf ⟨Nat.le_of_ble_eq_true rfl, Nat.le_of_ble_eq_true rfl⟩ rfl hK hP rfl rfl hl.1 rfl (Nat.le_of_ble_eq_true rfl) dX1_pick_6 ⟨Nat.zero_le _, Nat.zero_le _⟩ ?_
  refine lv_if_ne (tgt := 16) hx hb dX1_pick_9 (by decide) (fun c_1 => ?_) (fun c_1 => ?_)
  · skip
    have c_1 : (qst (nI n) k w x v) = true := b2i_n c_1
    obtain ⟨j, hj, rfl⟩ := jmp_of (qst_j c_1) hn
    obtain ⟨k6, hk6, rfl⟩ := hwo_of (qst_h c_1)
    refine lv_iload hx hb dX1_pick_16 (lv_at hl 4 rfl) ?_
    refine lv_istore (lv' := [(5, .int v), (0, .ref h), (1, .int (nI k6)), (2, .int w), (3, .int (nI j)), (4, .int v)]) hx hb dX1_pick_18 hl (by decide) rfl (fun ls hl => ?_)
    refine lv_iconst (v := 0) hx hb dX1_pick_20 (by decide) ?_
    refine lv_istore (lv' := [(6, .int 0), (5, .int v), (0, .ref h), (1, .int (nI k6)), (2, .int w), (3, .int (nI j)), (4, .int v)]) hx hb dX1_pick_21 hl (by decide) rfl (fun ls hl => ?_)
    refine q_lp (head := 23) (6) (fun i => [(0, .ref h), (1, .int (nI k6)), (2, .int w), (3, .int (nI j)), (4, .int v), (5, .int (pckF (nI k6) w (vlu M V w j) v i)), (6, .int (nI i))]) (fun i => True) (0) (by omega) (trivial) (q_hl (lv_sub (l' := [(0, .ref h), (1, .int (nI k6)), (2, .int w), (3, .int (nI j)), (4, .int v), (5, .int v), (6, .int 0)]) hl [2, 3, 4, 5, 6, 1, 0] rfl) (q_ck (q_ck (q_ck (q_ck (q_ck (q_ce (by rfl) (q_ce (by rfl) (rfl))))))))) ?_ ?_
    · intro i hi_i hI_i ih_i ls hl
      have hl : lv_has ls 8 [(0, .ref h), (1, .int (nI k6)), (2, .int w), (3, .int (nI j)), (4, .int v), (5, .int (pckF (nI k6) w (vlu M V w j) v i)), (6, .int (nI i))] := hl
      refine lv_iload hx hb dX1_pick_23 (lv_at hl 6 rfl) ?_
      refine lv_bipush (v := 6) hx hb dX1_pick_25 (by decide) ?_
      refine lv_icmp_ge (tgt := 68) hx hb dX1_pick_27 (by decide) (fun c_2 => absurd c_2 (nI_ge (b := 6) hi_i (by decide))) (fun c_2 => ?_)
      refine lv_aload_n hx hb dX1_pick_30 rfl (lv_at hl 0 rfl) ?_
      refine lv_iload_n hx hb dX1_pick_31 rfl (lv_at hl 2 rfl) ?_
      refine lv_iload_n hx hb dX1_pick_32 rfl (lv_at hl 3 rfl) ?_
      refine lv_iload hx hb dX1_pick_33 (lv_at hl 6 rfl) ?_
      refine q_cv [.int w, .int (nI j), .int (nI i)] (rest := []) ⟨hx, hb, hml, hown, hts⟩ (mX1_code l dC dI h qb qj qm qw qt cA n rec lim fb fj fm fw ft M V w j i hM hV (by omega) (by omega)) gX1_pick_X1_code rfl rfl rfl hdX1_code ⟨Nat.le_of_ble_eq_true rfl, Nat.le_of_ble_eq_true rfl⟩ rfl hK hP rfl rfl hl.1 rfl (Nat.le_of_ble_eq_true rfl) dX1_pick_35 ⟨Nat.zero_le _, Nat.zero_le _⟩ ?_
      refine lv_istore (lv' := [(7, .int (vlu M V w j i)), (0, .ref h), (1, .int (nI k6)), (2, .int w), (3, .int (nI j)), (4, .int v), (5, .int (pckF (nI k6) w (vlu M V w j) v i)), (6, .int (nI i))]) hx hb dX1_pick_38 hl (by decide) rfl (fun ls hl => ?_)
      refine lv_aload_n hx hb dX1_pick_40 rfl (lv_at hl 1 rfl) ?_
      refine lv_iload_n hx hb dX1_pick_41 rfl (lv_at hl 2 rfl) ?_
      refine lv_iload_n hx hb dX1_pick_42 rfl (lv_at hl 3 rfl) ?_
      refine lv_iload hx hb dX1_pick_43 (lv_at hl 0 rfl) ?_
      refine lv_iload hx hb dX1_pick_45 (lv_at hl 6 rfl) ?_
      refine q_cv [.int (nI k6), .int w, .int (vlu M V w j i), .int (pckF (nI k6) w (vlu M V w j) v i)] (rest := []) ⟨hx, hb, hml, hown, hts⟩ (mX1_fit l dC dI h qb qj qm qw qt cA n rec lim fb fj fm fw ft k6 w (vlu M V w j i) (pckF (nI k6) w (vlu M V w j) v i) hT (by omega)) gX1_pick_X1_fit rfl rfl rfl hdX1_fit ⟨Nat.le_of_ble_eq_true rfl, Nat.le_of_ble_eq_true rfl⟩ rfl hK hP rfl rfl hl.1 rfl (Nat.le_of_ble_eq_true rfl) dX1_pick_47 ⟨Nat.zero_le _, Nat.zero_le _⟩ ?_
      refine lv_if_eq (tgt := 58) hx hb dX1_pick_50 (by decide) (fun c_3 => ?_) (fun c_3 => ?_)
      · skip
        have c_3 : (fitv (nI k6) w (vlu M V w j i) (pckF (nI k6) w (vlu M V w j) v i)) = false := b2i_0 c_3
        refine lv_iload hx hb dX1_pick_58 (lv_at hl 6 rfl) ?_
        refine lv_istore (lv' := [(5, .int (pckF (nI k6) w (vlu M V w j) v i)), (7, .int (vlu M V w j i)), (0, .ref h), (1, .int (nI k6)), (2, .int w), (3, .int (nI j)), (4, .int v), (6, .int (nI i))]) hx hb dX1_pick_60 hl (by decide) rfl (fun ls hl => ?_)
        refine lv_iinc (v := (nI (i + 1))) (lv' := [(6, .int (nI (i + 1))), (5, .int (pckF (nI k6) w (vlu M V w j) v i)), (7, .int (vlu M V w j i)), (0, .ref h), (1, .int (nI k6)), (2, .int w), (3, .int (nI j)), (4, .int v)]) hx hb dX1_pick_62 hl (k := 7) rfl (by exact nI_1 _) (by decide) rfl (fun ls hl => ?_)
        refine lv_goto (tgt := 23) hx hb dX1_pick_65 (by decide) ?_
        exact ih_i (by exact trivial) ls (q_hl (lv_sub (l' := [(0, .ref h), (1, .int (nI k6)), (2, .int w), (3, .int (nI j)), (4, .int v), (5, .int (pckF (nI k6) w (vlu M V w j) v i)), (6, .int (nI (i + 1)))]) hl [3, 4, 5, 6, 7, 1, 0] rfl) (q_ck (q_ck (q_ck (q_ck (q_ck (q_ce (by simp [pckF, c_1, c_3]) (q_ck (rfl)))))))))
      · skip
        have c_3 : (fitv (nI k6) w (vlu M V w j i) (pckF (nI k6) w (vlu M V w j) v i)) = true := b2i_n c_3
        refine lv_iload hx hb dX1_pick_53 (lv_at hl 0 rfl) ?_
        refine lv_goto (tgt := 60) hx hb dX1_pick_55 (by decide) ?_
        refine lv_istore (lv' := [(5, .int (vlu M V w j i)), (7, .int (vlu M V w j i)), (0, .ref h), (1, .int (nI k6)), (2, .int w), (3, .int (nI j)), (4, .int v), (6, .int (nI i))]) hx hb dX1_pick_60 hl (by decide) rfl (fun ls hl => ?_)
        refine lv_iinc (v := (nI (i + 1))) (lv' := [(6, .int (nI (i + 1))), (5, .int (vlu M V w j i)), (7, .int (vlu M V w j i)), (0, .ref h), (1, .int (nI k6)), (2, .int w), (3, .int (nI j)), (4, .int v)]) hx hb dX1_pick_62 hl (k := 7) rfl (by exact nI_1 _) (by decide) rfl (fun ls hl => ?_)
        refine lv_goto (tgt := 23) hx hb dX1_pick_65 (by decide) ?_
        exact ih_i (by exact trivial) ls (q_hl (lv_sub (l' := [(0, .ref h), (1, .int (nI k6)), (2, .int w), (3, .int (nI j)), (4, .int v), (5, .int (vlu M V w j i)), (6, .int (nI (i + 1)))]) hl [3, 4, 5, 6, 7, 1, 0] rfl) (q_ck (q_ck (q_ck (q_ck (q_ck (q_ce (by simp [pckF, c_1, c_3]) (q_ck (rfl)))))))))
    · intro hI_i ls hl
      have hl : lv_has ls 8 [(0, .ref h), (1, .int (nI k6)), (2, .int w), (3, .int (nI j)), (4, .int v), (5, .int (pckF (nI k6) w (vlu M V w j) v 6)), (6, .int (nI 6))] := hl
      refine lv_iload hx hb dX1_pick_23 (lv_at hl 6 rfl) ?_
      refine lv_bipush (v := 6) hx hb dX1_pick_25 (by decide) ?_
      refine lv_icmp_ge (tgt := 68) hx hb dX1_pick_27 (by decide) (fun c_4 => ?_) (fun c_4 => absurd (by decide) c_4)
      refine lv_iload hx hb dX1_pick_68 (lv_at hl 5 rfl) ?_
      exact q_ri hx hb hr hlk (by rw [aPick, if_pos c_1, nI_clamp (by omega)]) dX1_pick_70
  · skip
    have c_1 : (qst (nI n) k w x v) = false := b2i_0 c_1
    refine lv_sipush (v := (-1000)) hx hb dX1_pick_12 (by decide) ?_
    exact q_ri hx hb hr hlk (by simp [aPick, c_1]) dX1_pick_15

theorem hdX1_isLegal : yX1_isLegal.cls = RX1 ∧ yX1_isLegal.cls ≠ "java/lang/invoke/MethodHandle" ∧ yX1_isLegal.cls ≠ "java/lang/invoke/VarHandle" ∧ (parseMethodDescriptor yX1_isLegal.desc).map (fun d => d.parameters.length) = some 2 := by decide +kernel
set_option maxHeartbeats 4000000 in
set_option maxRecDepth 100000 in
theorem mX1_isLegal (l : Launch) (dC : Nat → ClassId) (dI : Nat → Nat → Nat) (h qb qj qm qw qt : Nat) (cA : ClassId) (n : Nat) (rec lim : Int32) (fb fj fm fw ft : Nat → Int32) (M : Nat → Nat → Int32) (V : Nat → Nat → Int32) (j : Nat) (r : Nat) (hM : ∀ j r, j < 8 → r < 6 → (if nI r < fj j then fm (6 * j + r) else 0) = M j r) (hV : ∀ j r, j < 8 → r < 6 → (if nI r < fj j then fw (6 * j + r) else 100) = V j r) (hT : ft 0 = 1 ∧ ft 1 = 3 ∧ ft 2 = 4 ∧ ft 3 = 6 ∧ ft 4 = 2 ∧ ft 5 = 5) (hj : j < 8) (hr6 : r < 6) : Met l yX1_isLegal wsX1_isLegal ({ frames := 2, cells := 0, slots := 0, locals := 45 }) (va_Pc [.ref h, .int (nI j), .int (nI r)] (fun U => va_P (dC, dI) vwCl (wY h qb qj qm qw qt cA (nI n) rec lim fb fj fm fw ft) U.heap ∧ va_K (dC, dI) vwCl [(cA, .int)] U)) (QcRead (b2i (lgl M V lim j r))) 0 0 (fun _ => False) := by
  refine Met.ofW (cc := cX1_isLegal) (maxL := 3) (ret := (some .boolean)) (by decide) rfl ?_
  intro p e s m args below meth c s₁ B hml hv
  obtain ⟨rfl, hP, hK⟩ := hv
  have hx := B.exec
  have hb := B.bytes
  have hr := B.returns
  have hts := atoms_spec (ws := wsX1_isLegal) B.pre
  have hown : s.vm.findClass RX1 = some m.cls := findClass_of_methodNamed B.named
  have hlk := B.notSynchronized
  have hin : ∀ w ∈ wsX10, w ∈ wsX1_isLegal := fun w h => List.mem_cons_of_mem _ (List.mem_append_right _ h)
  have hf_29 := hts (.fieldLink RX1 29 "JumpBoardModel" "limitWind" "I") (by decide +kernel)
  have hl := lv_entry ([.ref h, .int (nI j), .int (nI r)]) (n := 3) (Nat.le_of_ble_eq_true rfl)
  rw [lg_entry_eq]
  generalize (lg_sl ([.ref h, .int (nI j), .int (nI r)]) ++ List.replicate (3 - (lg_sl ([.ref h, .int (nI j), .int (nI r)])).length) Slot.unset).toArray = ls at hl ⊢
  have hl : lv_has ls 3 [(0, .ref h), (1, .int (nI j)), (2, .int (nI r))] := hl
  refine lv_aload_n hx hb dX1_isLegal_0 rfl (lv_at hl 0 rfl) ?_
  refine lv_iconst (v := 0) hx hb dX1_isLegal_1 (by decide) ?_
  refine lv_iload_n hx hb dX1_isLegal_2 rfl (lv_at hl 1 rfl) ?_
  refine lv_iload_n hx hb dX1_isLegal_3 rfl (lv_at hl 2 rfl) ?_
  refine q_cv [.int 0, .int (nI j), .int (nI r)] (rest := []) ⟨hx, hb, hml, hown, hts⟩ (mX1_code l dC dI h qb qj qm qw qt cA n rec lim fb fj fm fw ft M V 0 j r hM hV (by omega) (by omega)) gX1_isLegal_X1_code rfl rfl rfl hdX1_code ⟨Nat.le_of_ble_eq_true rfl, Nat.le_of_ble_eq_true rfl⟩ rfl hK hP rfl rfl hl.1 rfl (Nat.le_of_ble_eq_true rfl) dX1_isLegal_4 ⟨Nat.zero_le _, Nat.zero_le _⟩ ?_
  refine q_top (y := M j r) (by rfl) ?_
  refine lv_if_eq (tgt := 34) hx hb dX1_isLegal_7 (by decide) (fun c_1 => ?_) (fun c_1 => ?_)
  · skip
    refine lv_iconst (v := 0) hx hb dX1_isLegal_34 (by decide) ?_
    exact q_rb hx hb hr hlk (by simp [lgl, b2i, c_1]) dX1_isLegal_35
  · skip
    refine lv_aload_n hx hb dX1_isLegal_10 rfl (lv_at hl 0 rfl) ?_
    refine lv_iconst (v := 2) hx hb dX1_isLegal_11 (by decide) ?_
    refine lv_iconst (v := 1) hx hb dX1_isLegal_12 (by decide) ?_
    refine lv_aload_n hx hb dX1_isLegal_13 rfl (lv_at hl 0 rfl) ?_
    refine lv_iconst (v := 1) hx hb dX1_isLegal_14 (by decide) ?_
    refine lv_iload_n hx hb dX1_isLegal_15 rfl (lv_at hl 1 rfl) ?_
    refine lv_iload_n hx hb dX1_isLegal_16 rfl (lv_at hl 2 rfl) ?_
    refine q_cv [.int 1, .int (nI j), .int (nI r)] (rest := [.int 1, .int 2, .ref h]) ⟨hx, hb, hml, hown, hts⟩ (mX1_code l dC dI h qb qj qm qw qt cA n rec lim fb fj fm fw ft M V 1 j r hM hV (by omega) (by omega)) gX1_isLegal_X1_code rfl rfl rfl hdX1_code ⟨Nat.le_of_ble_eq_true rfl, Nat.le_of_ble_eq_true rfl⟩ rfl hK hP rfl rfl hl.1 rfl (Nat.le_of_ble_eq_true rfl) dX1_isLegal_17 ⟨Nat.zero_le _, Nat.zero_le _⟩ ?_
    refine q_top (y := V j r) (by rfl) ?_
    refine lv_aload_n hx hb dX1_isLegal_20 rfl (lv_at hl 0 rfl) ?_
    refine va_get (D := (dC, dI)) (ci := 1) (v := .int lim) (C := RX1) (T := TX1) (N := 8) hx hb hts hin hown hK hP 0 rfl rfl 7 (by decide) hf_29 (fun _ h9 => h9) rfl dX1_isLegal_21 ?_
    refine q_cv [.int 2, .int 1, .int (V j r), .int lim] (rest := []) ⟨hx, hb, hml, hown, hts⟩ (mX1_fit l dC dI h qb qj qm qw qt cA n rec lim fb fj fm fw ft 2 1 (V j r) lim hT (by omega)) gX1_isLegal_X1_fit rfl rfl rfl hdX1_fit ⟨Nat.le_of_ble_eq_true rfl, Nat.le_of_ble_eq_true rfl⟩ rfl hK hP rfl rfl hl.1 rfl (Nat.le_of_ble_eq_true rfl) dX1_isLegal_24 ⟨Nat.zero_le _, Nat.zero_le _⟩ ?_
    refine q_top (y := b2i (fitv 2 1 (V j r) lim)) rfl ?_
    refine lv_if_ne (tgt := 34) hx hb dX1_isLegal_27 (by decide) (fun c_2 => ?_) (fun c_2 => ?_)
    · skip
      have c_2 : (fitv 2 1 (V j r) lim) = true := b2i_n c_2
      refine lv_iconst (v := 0) hx hb dX1_isLegal_34 (by decide) ?_
      exact q_rb hx hb hr hlk (by simp [lgl, b2i, c_1, c_2]) dX1_isLegal_35
    · skip
      have c_2 : (fitv 2 1 (V j r) lim) = false := b2i_0 c_2
      refine lv_iconst (v := 1) hx hb dX1_isLegal_30 (by decide) ?_
      refine lv_goto (tgt := 35) hx hb dX1_isLegal_31 (by decide) ?_
      exact q_rb hx hb hr hlk (by simp [lgl, b2i, c_1, c_2]) dX1_isLegal_35

theorem hdX1_greatest : yX1_greatest.cls = RX1 ∧ yX1_greatest.cls ≠ "java/lang/invoke/MethodHandle" ∧ yX1_greatest.cls ≠ "java/lang/invoke/VarHandle" ∧ (parseMethodDescriptor yX1_greatest.desc).map (fun d => d.parameters.length) = some 2 := by decide +kernel
set_option maxHeartbeats 4000000 in
set_option maxRecDepth 100000 in
theorem mX1_greatest (l : Launch) (dC : Nat → ClassId) (dI : Nat → Nat → Nat) (h qb qj qm qw qt : Nat) (cA : ClassId) (n : Nat) (rec lim : Int32) (fb fj fm fw ft : Nat → Int32) (M : Nat → Nat → Int32) (V : Nat → Nat → Int32) (j : Nat) (b : Int32) (hM : ∀ j r, j < 8 → r < 6 → (if nI r < fj j then fm (6 * j + r) else 0) = M j r) (hV : ∀ j r, j < 8 → r < 6 → (if nI r < fj j then fw (6 * j + r) else 100) = V j r) (hT : ft 0 = 1 ∧ ft 1 = 3 ∧ ft 2 = 4 ∧ ft 3 = 6 ∧ ft 4 = 2 ∧ ft 5 = 5) (hj : j < 8) : Met l yX1_greatest wsX1_greatest ({ frames := 3, cells := 0, slots := 0, locals := 67 }) (va_Pc [.ref h, .int (nI j), .int b] (fun U => va_P (dC, dI) vwCl (wY h qb qj qm qw qt cA (nI n) rec lim fb fj fm fw ft) U.heap ∧ va_K (dC, dI) vwCl [(cA, .int)] U)) (QcRead (grtU (lgl M V lim j) (M j) b 6)) 0 0 (fun _ => False) := by
  refine Met.ofW (cc := cX1_greatest) (maxL := 6) (ret := (some .int)) (by decide) rfl ?_
  intro p e s m args below meth c s₁ B hml hv
  obtain ⟨rfl, hP, hK⟩ := hv
  have hx := B.exec
  have hb := B.bytes
  have hr := B.returns
  have hts := atoms_spec (ws := wsX1_greatest) B.pre
  have hown : s.vm.findClass RX1 = some m.cls := findClass_of_methodNamed B.named
  have hlk := B.notSynchronized
  have hl := lv_entry ([.ref h, .int (nI j), .int b]) (n := 6) (Nat.le_of_ble_eq_true rfl)
  rw [lg_entry_eq]
  generalize (lg_sl ([.ref h, .int (nI j), .int b]) ++ List.replicate (6 - (lg_sl ([.ref h, .int (nI j), .int b])).length) Slot.unset).toArray = ls at hl ⊢
  have hl : lv_has ls 6 [(0, .ref h), (1, .int (nI j)), (2, .int b)] := hl
  refine lv_iconst (v := 0) hx hb dX1_greatest_0 (by decide) ?_
  refine lv_istore_n (lv' := [(3, .int 0), (0, .ref h), (1, .int (nI j)), (2, .int b)]) hx hb dX1_greatest_1 rfl hl (by decide) rfl (fun ls hl => ?_)
  refine lv_iconst (v := 0) hx hb dX1_greatest_2 (by decide) ?_
  refine lv_istore (lv' := [(4, .int 0), (3, .int 0), (0, .ref h), (1, .int (nI j)), (2, .int b)]) hx hb dX1_greatest_3 hl (by decide) rfl (fun ls hl => ?_)
  refine q_lp (head := 5) (6) (fun i => [(0, .ref h), (1, .int (nI j)), (2, .int b), (3, .int (grtU (lgl M V lim j) (M j) b i)), (4, .int (nI i))]) (fun i => True) (0) (by omega) (trivial) (q_hl (lv_sub (l' := [(0, .ref h), (1, .int (nI j)), (2, .int b), (3, .int 0), (4, .int 0)]) hl [2, 3, 4, 1, 0] rfl) (q_ck (q_ck (q_ck (q_ce (by rfl) (q_ce (by rfl) (rfl))))))) ?_ ?_
  · intro i hi_i hI_i ih_i ls hl
    have hl : lv_has ls 6 [(0, .ref h), (1, .int (nI j)), (2, .int b), (3, .int (grtU (lgl M V lim j) (M j) b i)), (4, .int (nI i))] := hl
    refine lv_iload hx hb dX1_greatest_5 (lv_at hl 4 rfl) ?_
    refine lv_bipush (v := 6) hx hb dX1_greatest_7 (by decide) ?_
    refine lv_icmp_ge (tgt := 53) hx hb dX1_greatest_9 (by decide) (fun c_1 => absurd c_1 (nI_ge (b := 6) hi_i (by decide))) (fun c_1 => ?_)
    refine lv_aload_n hx hb dX1_greatest_12 rfl (lv_at hl 0 rfl) ?_
    refine lv_iconst (v := 0) hx hb dX1_greatest_13 (by decide) ?_
    refine lv_iload_n hx hb dX1_greatest_14 rfl (lv_at hl 1 rfl) ?_
    refine lv_iload hx hb dX1_greatest_15 (lv_at hl 4 rfl) ?_
    refine q_cv [.int 0, .int (nI j), .int (nI i)] (rest := []) ⟨hx, hb, hml, hown, hts⟩ (mX1_code l dC dI h qb qj qm qw qt cA n rec lim fb fj fm fw ft M V 0 j i hM hV (by omega) (by omega)) gX1_greatest_X1_code rfl rfl rfl hdX1_code ⟨Nat.le_of_ble_eq_true rfl, Nat.le_of_ble_eq_true rfl⟩ rfl hK hP rfl rfl hl.1 rfl (Nat.le_of_ble_eq_true rfl) dX1_greatest_17 ⟨Nat.zero_le _, Nat.zero_le _⟩ ?_
    refine q_top (y := M j i) (by rfl) ?_
    refine lv_istore (lv' := [(5, .int (M j i)), (0, .ref h), (1, .int (nI j)), (2, .int b), (3, .int (grtU (lgl M V lim j) (M j) b i)), (4, .int (nI i))]) hx hb dX1_greatest_20 hl (by decide) rfl (fun ls hl => ?_)
    refine lv_aload_n hx hb dX1_greatest_22 rfl (lv_at hl 1 rfl) ?_
    refine lv_iload_n hx hb dX1_greatest_23 rfl (lv_at hl 2 rfl) ?_
    refine lv_iload hx hb dX1_greatest_24 (lv_at hl 5 rfl) ?_
    refine q_cv [.int (nI j), .int (nI i)] (rest := []) ⟨hx, hb, hml, hown, hts⟩ (mX1_isLegal l dC dI h qb qj qm qw qt cA n rec lim fb fj fm fw ft M V j i hM hV hT (by omega) (by omega)) gX1_greatest_X1_isLegal rfl rfl rfl hdX1_isLegal ⟨Nat.le_of_ble_eq_true rfl, Nat.le_of_ble_eq_true rfl⟩ rfl hK hP rfl rfl hl.1 rfl (Nat.le_of_ble_eq_true rfl) dX1_greatest_26 ⟨Nat.zero_le _, Nat.zero_le _⟩ ?_
    refine lv_if_eq (tgt := 47) hx hb dX1_greatest_29 (by decide) (fun c_2 => ?_) (fun c_2 => ?_)
    · skip
      have c_2 : (lgl M V lim j i) = false := b2i_0 c_2
      refine lv_iinc (v := (nI (i + 1))) (lv' := [(4, .int (nI (i + 1))), (5, .int (M j i)), (0, .ref h), (1, .int (nI j)), (2, .int b), (3, .int (grtU (lgl M V lim j) (M j) b i))]) hx hb dX1_greatest_47 hl (k := 5) rfl (by exact nI_1 _) (by decide) rfl (fun ls hl => ?_)
      refine lv_goto (tgt := 5) hx hb dX1_greatest_50 (by decide) ?_
      exact ih_i (by exact trivial) ls (q_hl (lv_sub (l' := [(0, .ref h), (1, .int (nI j)), (2, .int b), (3, .int (grtU (lgl M V lim j) (M j) b i)), (4, .int (nI (i + 1)))]) hl [2, 3, 4, 5, 0] rfl) (q_ck (q_ck (q_ck (q_ce (by first | exact grt_1 c_2 | exact grt_2 c_2 trivial | exact grt_3 c_2 trivial trivial | exact grt_4 c_2 trivial trivial) (q_ck (rfl)))))))
    · skip
      have c_2 : (lgl M V lim j i) = true := b2i_n c_2
      refine lv_iload hx hb dX1_greatest_32 (lv_at hl 0 rfl) ?_
      refine lv_iload_n hx hb dX1_greatest_34 rfl (lv_at hl 3 rfl) ?_
      refine lv_icmp_ge (tgt := 47) hx hb dX1_greatest_35 (by decide) (fun c_3 => ?_) (fun c_3 => ?_)
      · skip
        refine lv_iinc (v := (nI (i + 1))) (lv' := [(4, .int (nI (i + 1))), (5, .int (M j i)), (0, .ref h), (1, .int (nI j)), (2, .int b), (3, .int (grtU (lgl M V lim j) (M j) b i))]) hx hb dX1_greatest_47 hl (k := 5) rfl (by exact nI_1 _) (by decide) rfl (fun ls hl => ?_)
        refine lv_goto (tgt := 5) hx hb dX1_greatest_50 (by decide) ?_
        exact ih_i (by exact trivial) ls (q_hl (lv_sub (l' := [(0, .ref h), (1, .int (nI j)), (2, .int b), (3, .int (grtU (lgl M V lim j) (M j) b i)), (4, .int (nI (i + 1)))]) hl [2, 3, 4, 5, 0] rfl) (q_ck (q_ck (q_ck (q_ce (by first | exact grt_1 c_2 | exact grt_2 c_2 c_3 | exact grt_3 c_2 c_3 trivial | exact grt_4 c_2 c_3 trivial) (q_ck (rfl)))))))
      · skip
        refine lv_iload hx hb dX1_greatest_38 (lv_at hl 0 rfl) ?_
        refine lv_iload_n hx hb dX1_greatest_40 rfl (lv_at hl 4 rfl) ?_
        refine lv_icmp_le (tgt := 47) hx hb dX1_greatest_41 (by decide) (fun c_4 => ?_) (fun c_4 => ?_)
        · skip
          refine lv_iinc (v := (nI (i + 1))) (lv' := [(4, .int (nI (i + 1))), (5, .int (M j i)), (0, .ref h), (1, .int (nI j)), (2, .int b), (3, .int (grtU (lgl M V lim j) (M j) b i))]) hx hb dX1_greatest_47 hl (k := 5) rfl (by exact nI_1 _) (by decide) rfl (fun ls hl => ?_)
          refine lv_goto (tgt := 5) hx hb dX1_greatest_50 (by decide) ?_
          exact ih_i (by exact trivial) ls (q_hl (lv_sub (l' := [(0, .ref h), (1, .int (nI j)), (2, .int b), (3, .int (grtU (lgl M V lim j) (M j) b i)), (4, .int (nI (i + 1)))]) hl [2, 3, 4, 5, 0] rfl) (q_ck (q_ck (q_ck (q_ce (by first | exact grt_1 c_2 | exact grt_2 c_2 c_3 | exact grt_3 c_2 c_3 c_4 | exact grt_4 c_2 c_3 c_4) (q_ck (rfl)))))))
        · skip
          refine lv_iload hx hb dX1_greatest_44 (lv_at hl 0 rfl) ?_
          refine lv_istore_n (lv' := [(3, .int (M j i)), (5, .int (M j i)), (0, .ref h), (1, .int (nI j)), (2, .int b), (4, .int (nI i))]) hx hb dX1_greatest_46 rfl hl (by decide) rfl (fun ls hl => ?_)
          refine lv_iinc (v := (nI (i + 1))) (lv' := [(4, .int (nI (i + 1))), (3, .int (M j i)), (5, .int (M j i)), (0, .ref h), (1, .int (nI j)), (2, .int b)]) hx hb dX1_greatest_47 hl (k := 5) rfl (by exact nI_1 _) (by decide) rfl (fun ls hl => ?_)
          refine lv_goto (tgt := 5) hx hb dX1_greatest_50 (by decide) ?_
          exact ih_i (by exact trivial) ls (q_hl (lv_sub (l' := [(0, .ref h), (1, .int (nI j)), (2, .int b), (3, .int (M j i)), (4, .int (nI (i + 1)))]) hl [3, 4, 5, 1, 0] rfl) (q_ck (q_ck (q_ck (q_ce (by first | exact grt_1 c_2 | exact grt_2 c_2 c_3 | exact grt_3 c_2 c_3 c_4 | exact grt_4 c_2 c_3 c_4) (q_ck (rfl)))))))
  · intro hI_i ls hl
    have hl : lv_has ls 6 [(0, .ref h), (1, .int (nI j)), (2, .int b), (3, .int (grtU (lgl M V lim j) (M j) b 6)), (4, .int (nI 6))] := hl
    refine lv_iload hx hb dX1_greatest_5 (lv_at hl 4 rfl) ?_
    refine lv_bipush (v := 6) hx hb dX1_greatest_7 (by decide) ?_
    refine lv_icmp_ge (tgt := 53) hx hb dX1_greatest_9 (by decide) (fun c_5 => ?_) (fun c_5 => absurd (by decide) c_5)
    refine lv_iload_n hx hb dX1_greatest_53 rfl (lv_at hl 3 rfl) ?_
    exact q_ri hx hb hr hlk (by rfl) dX1_greatest_54

theorem hdX1_many : yX1_many.cls = RX1 ∧ yX1_many.cls ≠ "java/lang/invoke/MethodHandle" ∧ yX1_many.cls ≠ "java/lang/invoke/VarHandle" ∧ (parseMethodDescriptor yX1_many.desc).map (fun d => d.parameters.length) = some 2 := by decide +kernel
set_option maxHeartbeats 4000000 in
set_option maxRecDepth 100000 in
theorem mX1_many (l : Launch) (dC : Nat → ClassId) (dI : Nat → Nat → Nat) (h qb qj qm qw qt : Nat) (cA : ClassId) (n : Nat) (rec lim : Int32) (fb fj fm fw ft : Nat → Int32) (M : Nat → Nat → Int32) (V : Nat → Nat → Int32) (j : Nat) (g : Int32) (hM : ∀ j r, j < 8 → r < 6 → (if nI r < fj j then fm (6 * j + r) else 0) = M j r) (hV : ∀ j r, j < 8 → r < 6 → (if nI r < fj j then fw (6 * j + r) else 100) = V j r) (hT : ft 0 = 1 ∧ ft 1 = 3 ∧ ft 2 = 4 ∧ ft 3 = 6 ∧ ft 4 = 2 ∧ ft 5 = 5) (hj : j < 8) : Met l yX1_many wsX1_many ({ frames := 3, cells := 0, slots := 0, locals := 67 }) (va_Pc [.ref h, .int (nI j), .int g] (fun U => va_P (dC, dI) vwCl (wY h qb qj qm qw qt cA (nI n) rec lim fb fj fm fw ft) U.heap ∧ va_K (dC, dI) vwCl [(cA, .int)] U)) (QcRead (nI (cntB (fun t => lgl M V lim j t && decide (M j t = g)) 6))) 0 0 (fun _ => False) := by
  refine Met.ofW (cc := cX1_many) (maxL := 5) (ret := (some .int)) (by decide) rfl ?_
  intro p e s m args below meth c s₁ B hml hv
  obtain ⟨rfl, hP, hK⟩ := hv
  have hx := B.exec
  have hb := B.bytes
  have hr := B.returns
  have hts := atoms_spec (ws := wsX1_many) B.pre
  have hown : s.vm.findClass RX1 = some m.cls := findClass_of_methodNamed B.named
  have hlk := B.notSynchronized
  have hl := lv_entry ([.ref h, .int (nI j), .int g]) (n := 5) (Nat.le_of_ble_eq_true rfl)
  rw [lg_entry_eq]
  generalize (lg_sl ([.ref h, .int (nI j), .int g]) ++ List.replicate (5 - (lg_sl ([.ref h, .int (nI j), .int g])).length) Slot.unset).toArray = ls at hl ⊢
  have hl : lv_has ls 5 [(0, .ref h), (1, .int (nI j)), (2, .int g)] := hl
  refine lv_iconst (v := 0) hx hb dX1_many_0 (by decide) ?_
  refine lv_istore_n (lv' := [(3, .int 0), (0, .ref h), (1, .int (nI j)), (2, .int g)]) hx hb dX1_many_1 rfl hl (by decide) rfl (fun ls hl => ?_)
  refine lv_iconst (v := 0) hx hb dX1_many_2 (by decide) ?_
  refine lv_istore (lv' := [(4, .int 0), (3, .int 0), (0, .ref h), (1, .int (nI j)), (2, .int g)]) hx hb dX1_many_3 hl (by decide) rfl (fun ls hl => ?_)
  refine q_lp (head := 5) (6) (fun i => [(0, .ref h), (1, .int (nI j)), (2, .int g), (3, .int (nI (cntB (fun t => lgl M V lim j t && decide (M j t = g)) i))), (4, .int (nI i))]) (fun i => True) (0) (by omega) (trivial) (q_hl (lv_sub (l' := [(0, .ref h), (1, .int (nI j)), (2, .int g), (3, .int 0), (4, .int 0)]) hl [2, 3, 4, 1, 0] rfl) (q_ck (q_ck (q_ck (q_ce (by rfl) (q_ce (by rfl) (rfl))))))) ?_ ?_
  · intro i hi_i hI_i ih_i ls hl
    have hl : lv_has ls 5 [(0, .ref h), (1, .int (nI j)), (2, .int g), (3, .int (nI (cntB (fun t => lgl M V lim j t && decide (M j t = g)) i))), (4, .int (nI i))] := hl
    refine lv_iload hx hb dX1_many_5 (lv_at hl 4 rfl) ?_
    refine lv_bipush (v := 6) hx hb dX1_many_7 (by decide) ?_
    refine lv_icmp_ge (tgt := 48) hx hb dX1_many_9 (by decide) (fun c_1 => absurd c_1 (nI_ge (b := 6) hi_i (by decide))) (fun c_1 => ?_)
    refine lv_iload_n hx hb dX1_many_12 rfl (lv_at hl 3 rfl) ?_
    refine lv_aload_n hx hb dX1_many_13 rfl (lv_at hl 0 rfl) ?_
    refine lv_iload_n hx hb dX1_many_14 rfl (lv_at hl 1 rfl) ?_
    refine lv_iload hx hb dX1_many_15 (lv_at hl 4 rfl) ?_
    refine q_cv [.int (nI j), .int (nI i)] (rest := [.int (nI (cntB (fun t => lgl M V lim j t && decide (M j t = g)) i))]) ⟨hx, hb, hml, hown, hts⟩ (mX1_isLegal l dC dI h qb qj qm qw qt cA n rec lim fb fj fm fw ft M V j i hM hV hT (by omega) (by omega)) gX1_many_X1_isLegal rfl rfl rfl hdX1_isLegal ⟨Nat.le_of_ble_eq_true rfl, Nat.le_of_ble_eq_true rfl⟩ rfl hK hP rfl rfl hl.1 rfl (Nat.le_of_ble_eq_true rfl) dX1_many_17 ⟨Nat.zero_le _, Nat.zero_le _⟩ ?_
    refine lv_if_eq (tgt := 39) hx hb dX1_many_20 (by decide) (fun c_2 => ?_) (fun c_2 => ?_)
    · skip
      have c_2 : (lgl M V lim j i) = false := b2i_0 c_2
      refine lv_iconst (v := 0) hx hb dX1_many_39 (by decide) ?_
      refine lv_iadd hx hb dX1_many_40 ?_
      refine lv_istore_n (lv' := [(3, .int ((nI (cntB (fun t => lgl M V lim j t && decide (M j t = g)) i)) + 0)), (0, .ref h), (1, .int (nI j)), (2, .int g), (4, .int (nI i))]) hx hb dX1_many_41 rfl hl (by decide) rfl (fun ls hl => ?_)
      refine lv_iinc (v := (nI (i + 1))) (lv' := [(4, .int (nI (i + 1))), (3, .int ((nI (cntB (fun t => lgl M V lim j t && decide (M j t = g)) i)) + 0)), (0, .ref h), (1, .int (nI j)), (2, .int g)]) hx hb dX1_many_42 hl (k := 4) rfl (by exact nI_1 _) (by decide) rfl (fun ls hl => ?_)
      refine lv_goto (tgt := 5) hx hb dX1_many_45 (by decide) ?_
      exact ih_i (by exact trivial) ls (q_hl (lv_sub (l' := [(0, .ref h), (1, .int (nI j)), (2, .int g), (3, .int ((nI (cntB (fun t => lgl M V lim j t && decide (M j t = g)) i)) + 0)), (4, .int (nI (i + 1)))]) hl [2, 3, 4, 1, 0] rfl) (q_ck (q_ck (q_ck (q_ce (by simp [cntB, c_2, nI_1]) (q_ck (rfl)))))))
    · skip
      have c_2 : (lgl M V lim j i) = true := b2i_n c_2
      refine lv_aload_n hx hb dX1_many_23 rfl (lv_at hl 0 rfl) ?_
      refine lv_iconst (v := 0) hx hb dX1_many_24 (by decide) ?_
      refine lv_iload_n hx hb dX1_many_25 rfl (lv_at hl 1 rfl) ?_
      refine lv_iload hx hb dX1_many_26 (lv_at hl 4 rfl) ?_
      refine q_cv [.int 0, .int (nI j), .int (nI i)] (rest := [.int (nI (cntB (fun t => lgl M V lim j t && decide (M j t = g)) i))]) ⟨hx, hb, hml, hown, hts⟩ (mX1_code l dC dI h qb qj qm qw qt cA n rec lim fb fj fm fw ft M V 0 j i hM hV (by omega) (by omega)) gX1_many_X1_code rfl rfl rfl hdX1_code ⟨Nat.le_of_ble_eq_true rfl, Nat.le_of_ble_eq_true rfl⟩ rfl hK hP rfl rfl hl.1 rfl (Nat.le_of_ble_eq_true rfl) dX1_many_28 ⟨Nat.zero_le _, Nat.zero_le _⟩ ?_
      refine q_top (y := M j i) (by rfl) ?_
      refine lv_iload_n hx hb dX1_many_31 rfl (lv_at hl 2 rfl) ?_
      refine lv_icmp_ne (tgt := 39) hx hb dX1_many_32 (by decide) (fun c_3 => ?_) (fun c_3 => ?_)
      · skip
        refine lv_iconst (v := 0) hx hb dX1_many_39 (by decide) ?_
        refine lv_iadd hx hb dX1_many_40 ?_
        refine lv_istore_n (lv' := [(3, .int ((nI (cntB (fun t => lgl M V lim j t && decide (M j t = g)) i)) + 0)), (0, .ref h), (1, .int (nI j)), (2, .int g), (4, .int (nI i))]) hx hb dX1_many_41 rfl hl (by decide) rfl (fun ls hl => ?_)
        refine lv_iinc (v := (nI (i + 1))) (lv' := [(4, .int (nI (i + 1))), (3, .int ((nI (cntB (fun t => lgl M V lim j t && decide (M j t = g)) i)) + 0)), (0, .ref h), (1, .int (nI j)), (2, .int g)]) hx hb dX1_many_42 hl (k := 4) rfl (by exact nI_1 _) (by decide) rfl (fun ls hl => ?_)
        refine lv_goto (tgt := 5) hx hb dX1_many_45 (by decide) ?_
        exact ih_i (by exact trivial) ls (q_hl (lv_sub (l' := [(0, .ref h), (1, .int (nI j)), (2, .int g), (3, .int ((nI (cntB (fun t => lgl M V lim j t && decide (M j t = g)) i)) + 0)), (4, .int (nI (i + 1)))]) hl [2, 3, 4, 1, 0] rfl) (q_ck (q_ck (q_ck (q_ce (by simp [cntB, c_2, c_3, nI_1]) (q_ck (rfl)))))))
      · skip
        refine lv_iconst (v := 1) hx hb dX1_many_35 (by decide) ?_
        refine lv_goto (tgt := 40) hx hb dX1_many_36 (by decide) ?_
        refine lv_iadd hx hb dX1_many_40 ?_
        refine lv_istore_n (lv' := [(3, .int ((nI (cntB (fun t => lgl M V lim j t && decide (M j t = g)) i)) + 1)), (0, .ref h), (1, .int (nI j)), (2, .int g), (4, .int (nI i))]) hx hb dX1_many_41 rfl hl (by decide) rfl (fun ls hl => ?_)
        refine lv_iinc (v := (nI (i + 1))) (lv' := [(4, .int (nI (i + 1))), (3, .int ((nI (cntB (fun t => lgl M V lim j t && decide (M j t = g)) i)) + 1)), (0, .ref h), (1, .int (nI j)), (2, .int g)]) hx hb dX1_many_42 hl (k := 4) rfl (by exact nI_1 _) (by decide) rfl (fun ls hl => ?_)
        refine lv_goto (tgt := 5) hx hb dX1_many_45 (by decide) ?_
        exact ih_i (by exact trivial) ls (q_hl (lv_sub (l' := [(0, .ref h), (1, .int (nI j)), (2, .int g), (3, .int ((nI (cntB (fun t => lgl M V lim j t && decide (M j t = g)) i)) + 1)), (4, .int (nI (i + 1)))]) hl [2, 3, 4, 1, 0] rfl) (q_ck (q_ck (q_ck (q_ce (by simp [cntB, c_2, c_3, nI_1]) (q_ck (rfl)))))))
  · intro hI_i ls hl
    have hl : lv_has ls 5 [(0, .ref h), (1, .int (nI j)), (2, .int g), (3, .int (nI (cntB (fun t => lgl M V lim j t && decide (M j t = g)) 6))), (4, .int (nI 6))] := hl
    refine lv_iload hx hb dX1_many_5 (lv_at hl 4 rfl) ?_
    refine lv_bipush (v := 6) hx hb dX1_many_7 (by decide) ?_
    refine lv_icmp_ge (tgt := 48) hx hb dX1_many_9 (by decide) (fun c_4 => ?_) (fun c_4 => absurd (by decide) c_4)
    refine lv_iload_n hx hb dX1_many_48 rfl (lv_at hl 3 rfl) ?_
    exact q_ri hx hb hr hlk (by rfl) dX1_many_49

theorem hdX1_isNewBest : yX1_isNewBest.cls = RX1 ∧ yX1_isNewBest.cls ≠ "java/lang/invoke/MethodHandle" ∧ yX1_isNewBest.cls ≠ "java/lang/invoke/VarHandle" ∧ (parseMethodDescriptor yX1_isNewBest.desc).map (fun d => d.parameters.length) = some 2 := by decide +kernel
set_option maxHeartbeats 4000000 in
set_option maxRecDepth 100000 in
theorem mX1_isNewBest (l : Launch) (dC : Nat → ClassId) (dI : Nat → Nat → Nat) (h qb qj qm qw qt : Nat) (cA : ClassId) (n : Nat) (rec lim : Int32) (fb fj fm fw ft : Nat → Int32) (M : Nat → Nat → Int32) (V : Nat → Nat → Int32) (j : Nat) (r : Nat) (hM : ∀ j r, j < 8 → r < 6 → (if nI r < fj j then fm (6 * j + r) else 0) = M j r) (hV : ∀ j r, j < 8 → r < 6 → (if nI r < fj j then fw (6 * j + r) else 100) = V j r) (hT : ft 0 = 1 ∧ ft 1 = 3 ∧ ft 2 = 4 ∧ ft 3 = 6 ∧ ft 4 = 2 ∧ ft 5 = 5) (hj : j < 8) (hr6 : r < 6) : Met l yX1_isNewBest wsX1_isNewBest ({ frames := 2, cells := 0, slots := 0, locals := 45 }) (va_Pc [.ref h, .int (nI j), .int (nI r)] (fun U => va_P (dC, dI) vwCl (wY h qb qj qm qw qt cA (nI n) rec lim fb fj fm fw ft) U.heap ∧ va_K (dC, dI) vwCl [(cA, .int)] U)) (QcRead (b2i (bts (M j) r))) 0 0 (fun _ => False) := by
  refine Met.ofW (cc := cX1_isNewBest) (maxL := 6) (ret := (some .boolean)) (by decide) rfl ?_
  intro p e s m args below meth c s₁ B hml hv
  obtain ⟨rfl, hP, hK⟩ := hv
  have hx := B.exec
  have hb := B.bytes
  have hr := B.returns
  have hts := atoms_spec (ws := wsX1_isNewBest) B.pre
  have hown : s.vm.findClass RX1 = some m.cls := findClass_of_methodNamed B.named
  have hlk := B.notSynchronized
  have hl := lv_entry ([.ref h, .int (nI j), .int (nI r)]) (n := 6) (Nat.le_of_ble_eq_true rfl)
  rw [lg_entry_eq]
  generalize (lg_sl ([.ref h, .int (nI j), .int (nI r)]) ++ List.replicate (6 - (lg_sl ([.ref h, .int (nI j), .int (nI r)])).length) Slot.unset).toArray = ls at hl ⊢
  have hl : lv_has ls 6 [(0, .ref h), (1, .int (nI j)), (2, .int (nI r))] := hl
  refine lv_aload_n hx hb dX1_isNewBest_0 rfl (lv_at hl 0 rfl) ?_
  refine lv_iconst (v := 0) hx hb dX1_isNewBest_1 (by decide) ?_
  refine lv_iload_n hx hb dX1_isNewBest_2 rfl (lv_at hl 1 rfl) ?_
  refine lv_iload_n hx hb dX1_isNewBest_3 rfl (lv_at hl 2 rfl) ?_
  refine q_cv [.int 0, .int (nI j), .int (nI r)] (rest := []) ⟨hx, hb, hml, hown, hts⟩ (mX1_code l dC dI h qb qj qm qw qt cA n rec lim fb fj fm fw ft M V 0 j r hM hV (by omega) (by omega)) gX1_isNewBest_X1_code rfl rfl rfl hdX1_code ⟨Nat.le_of_ble_eq_true rfl, Nat.le_of_ble_eq_true rfl⟩ rfl hK hP rfl rfl hl.1 rfl (Nat.le_of_ble_eq_true rfl) dX1_isNewBest_4 ⟨Nat.zero_le _, Nat.zero_le _⟩ ?_
  refine q_top (y := M j r) (by rfl) ?_
  refine lv_istore_n (lv' := [(3, .int (M j r)), (0, .ref h), (1, .int (nI j)), (2, .int (nI r))]) hx hb dX1_isNewBest_7 rfl hl (by decide) rfl (fun ls hl => ?_)
  refine lv_iload_n hx hb dX1_isNewBest_8 rfl (lv_at hl 0 rfl) ?_
  refine q_jn (pj := 17) (v := b2i (btsU (M j) r 0)) (rest := []) ?_ (fun J => ?_)
  rotate_left
  · skip
    refine lv_if_eq (tgt := 16) hx hb dX1_isNewBest_9 (by decide) (fun c_1 => ?_) (fun c_1 => ?_)
    · skip
      refine lv_iconst (v := 0) hx hb dX1_isNewBest_16 (by decide) ?_
      exact q_top (by simp [btsU, anyB, b2i, c_1]) J
    · skip
      refine lv_iconst (v := 1) hx hb dX1_isNewBest_12 (by decide) ?_
      refine lv_goto (tgt := 17) hx hb dX1_isNewBest_13 (by decide) ?_
      exact q_top (by simp [btsU, anyB, b2i, c_1]) J
  refine lv_istore (lv' := [(4, .int (b2i (btsU (M j) r 0))), (3, .int (M j r)), (0, .ref h), (1, .int (nI j)), (2, .int (nI r))]) hx hb dX1_isNewBest_17 hl (by decide) rfl (fun ls hl => ?_)
  refine lv_iconst (v := 0) hx hb dX1_isNewBest_19 (by decide) ?_
  refine lv_istore (lv' := [(5, .int 0), (4, .int (b2i (btsU (M j) r 0))), (3, .int (M j r)), (0, .ref h), (1, .int (nI j)), (2, .int (nI r))]) hx hb dX1_isNewBest_20 hl (by decide) rfl (fun ls hl => ?_)
  refine q_lp (head := 22) (r) (fun i => [(0, .ref h), (1, .int (nI j)), (2, .int (nI r)), (3, .int (M j r)), (4, .int (b2i (btsU (M j) r i))), (5, .int (nI i))]) (fun i => True) (0) (by omega) (trivial) (q_hl (lv_sub (l' := [(0, .ref h), (1, .int (nI j)), (2, .int (nI r)), (3, .int (M j r)), (4, .int (b2i (btsU (M j) r 0))), (5, .int 0)]) hl [3, 4, 5, 2, 1, 0] rfl) (q_ck (q_ck (q_ck (q_ck (q_ck (q_ce (by rfl) (rfl)))))))) ?_ ?_
  · intro i hi_i hI_i ih_i ls hl
    have hl : lv_has ls 6 [(0, .ref h), (1, .int (nI j)), (2, .int (nI r)), (3, .int (M j r)), (4, .int (b2i (btsU (M j) r i))), (5, .int (nI i))] := hl
    refine lv_iload hx hb dX1_isNewBest_22 (lv_at hl 5 rfl) ?_
    refine lv_iload_n hx hb dX1_isNewBest_24 rfl (lv_at hl 2 rfl) ?_
    refine lv_icmp_ge (tgt := 64) hx hb dX1_isNewBest_25 (by decide) (fun c_2 => absurd c_2 (nI_ge hi_i (by omega))) (fun c_2 => ?_)
    refine lv_iload hx hb dX1_isNewBest_28 (lv_at hl 4 rfl) ?_
    refine q_jn (pj := 56) (v := b2i (btsU (M j) r (i + 1))) (rest := []) ?_ (fun J => ?_)
    rotate_left
    · skip
      refine lv_if_eq (tgt := 55) hx hb dX1_isNewBest_30 (by decide) (fun c_3 => ?_) (fun c_3 => ?_)
      · skip
        have c_3 : (btsU (M j) r i) = false := b2i_0 c_3
        refine lv_iconst (v := 0) hx hb dX1_isNewBest_55 (by decide) ?_
        exact q_top (by rw [btsU_succ]; simp [b2i, c_3]) J
      · skip
        have c_3 : (btsU (M j) r i) = true := b2i_n c_3
        refine lv_aload_n hx hb dX1_isNewBest_33 rfl (lv_at hl 0 rfl) ?_
        refine lv_iconst (v := 3) hx hb dX1_isNewBest_34 (by decide) ?_
        refine lv_iconst (v := 0) hx hb dX1_isNewBest_35 (by decide) ?_
        refine lv_aload_n hx hb dX1_isNewBest_36 rfl (lv_at hl 0 rfl) ?_
        refine lv_iconst (v := 0) hx hb dX1_isNewBest_37 (by decide) ?_
        refine lv_iload_n hx hb dX1_isNewBest_38 rfl (lv_at hl 1 rfl) ?_
        refine lv_iload hx hb dX1_isNewBest_39 (lv_at hl 5 rfl) ?_
        refine q_cv [.int 0, .int (nI j), .int (nI i)] (rest := [.int 0, .int 3, .ref h]) ⟨hx, hb, hml, hown, hts⟩ (mX1_code l dC dI h qb qj qm qw qt cA n rec lim fb fj fm fw ft M V 0 j i hM hV (by omega) (by omega)) gX1_isNewBest_X1_code rfl rfl rfl hdX1_code ⟨Nat.le_of_ble_eq_true rfl, Nat.le_of_ble_eq_true rfl⟩ rfl hK hP rfl rfl hl.1 rfl (Nat.le_of_ble_eq_true rfl) dX1_isNewBest_41 ⟨Nat.zero_le _, Nat.zero_le _⟩ ?_
        refine q_top (y := M j i) (by rfl) ?_
        refine lv_iload_n hx hb dX1_isNewBest_44 rfl (lv_at hl 3 rfl) ?_
        refine q_cv [.int 3, .int 0, .int (M j i), .int (M j r)] (rest := []) ⟨hx, hb, hml, hown, hts⟩ (mX1_fit l dC dI h qb qj qm qw qt cA n rec lim fb fj fm fw ft 3 0 (M j i) (M j r) hT (by omega)) gX1_isNewBest_X1_fit rfl rfl rfl hdX1_fit ⟨Nat.le_of_ble_eq_true rfl, Nat.le_of_ble_eq_true rfl⟩ rfl hK hP rfl rfl hl.1 rfl (Nat.le_of_ble_eq_true rfl) dX1_isNewBest_45 ⟨Nat.zero_le _, Nat.zero_le _⟩ ?_
        refine q_top (y := b2i (fitv 3 0 (M j i) (M j r))) rfl ?_
        refine lv_if_ne (tgt := 55) hx hb dX1_isNewBest_48 (by decide) (fun c_4 => ?_) (fun c_4 => ?_)
        · skip
          have c_4 : (fitv 3 0 (M j i) (M j r)) = true := b2i_n c_4
          refine lv_iconst (v := 0) hx hb dX1_isNewBest_55 (by decide) ?_
          exact q_top (by rw [btsU_succ]; simp [b2i, c_3, c_4]) J
        · skip
          have c_4 : (fitv 3 0 (M j i) (M j r)) = false := b2i_0 c_4
          refine lv_iconst (v := 1) hx hb dX1_isNewBest_51 (by decide) ?_
          refine lv_goto (tgt := 56) hx hb dX1_isNewBest_52 (by decide) ?_
          exact q_top (by rw [btsU_succ]; simp [b2i, c_3, c_4]) J
    refine lv_istore (lv' := [(4, .int (b2i (btsU (M j) r (i + 1)))), (0, .ref h), (1, .int (nI j)), (2, .int (nI r)), (3, .int (M j r)), (5, .int (nI i))]) hx hb dX1_isNewBest_56 hl (by decide) rfl (fun ls hl => ?_)
    refine lv_iinc (v := (nI (i + 1))) (lv' := [(5, .int (nI (i + 1))), (4, .int (b2i (btsU (M j) r (i + 1)))), (0, .ref h), (1, .int (nI j)), (2, .int (nI r)), (3, .int (M j r))]) hx hb dX1_isNewBest_58 hl (k := 5) rfl (by exact nI_1 _) (by decide) rfl (fun ls hl => ?_)
    refine lv_goto (tgt := 22) hx hb dX1_isNewBest_61 (by decide) ?_
    exact ih_i (by exact trivial) ls (lv_sub (l' := [(0, .ref h), (1, .int (nI j)), (2, .int (nI r)), (3, .int (M j r)), (4, .int (b2i (btsU (M j) r (i + 1)))), (5, .int (nI (i + 1)))]) hl [2, 3, 4, 5, 1, 0] rfl)
  · intro hI_i ls hl
    have hl : lv_has ls 6 [(0, .ref h), (1, .int (nI j)), (2, .int (nI r)), (3, .int (M j r)), (4, .int (b2i (btsU (M j) r r))), (5, .int (nI r))] := hl
    refine lv_iload hx hb dX1_isNewBest_22 (lv_at hl 5 rfl) ?_
    refine lv_iload_n hx hb dX1_isNewBest_24 rfl (lv_at hl 2 rfl) ?_
    refine lv_icmp_ge (tgt := 64) hx hb dX1_isNewBest_25 (by decide) (fun c_5 => ?_) (fun c_5 => absurd (nI_le (Nat.le_refl r) (by omega)) c_5)
    refine lv_iload hx hb dX1_isNewBest_64 (lv_at hl 4 rfl) ?_
    exact q_rb hx hb hr hlk (by rfl) dX1_isNewBest_66

theorem hdX1_verdict : yX1_verdict.cls = RX1 ∧ yX1_verdict.cls ≠ "java/lang/invoke/MethodHandle" ∧ yX1_verdict.cls ≠ "java/lang/invoke/VarHandle" ∧ (parseMethodDescriptor yX1_verdict.desc).map (fun d => d.parameters.length) = some 2 := by decide +kernel
set_option maxHeartbeats 4000000 in
set_option maxRecDepth 100000 in
theorem mX1_verdict (l : Launch) (dC : Nat → ClassId) (dI : Nat → Nat → Nat) (h qb qj qm qw qt : Nat) (cA : ClassId) (n : Nat) (rec lim : Int32) (fb fj fm fw ft : Nat → Int32) (M : Nat → Nat → Int32) (V : Nat → Nat → Int32) (x : Int32) (r : Int32) (hM : ∀ j r, j < 8 → r < 6 → (if nI r < fj j then fm (6 * j + r) else 0) = M j r) (hV : ∀ j r, j < 8 → r < 6 → (if nI r < fj j then fw (6 * j + r) else 100) = V j r) (hT : ft 0 = 1 ∧ ft 1 = 3 ∧ ft 2 = 4 ∧ ft 3 = 6 ∧ ft 4 = 2 ∧ ft 5 = 5) (hn : n ≤ 8) : Met l yX1_verdict wsX1_verdict ({ frames := 3, cells := 0, slots := 0, locals := 70 }) (va_Pc [.ref h, .int x, .int r] (fun U => va_P (dC, dI) vwCl (wY h qb qj qm qw qt cA (nI n) rec lim fb fj fm fw ft) U.heap ∧ va_K (dC, dI) vwCl [(cA, .int)] U)) (QcRead (aVerdict M V rec lim (nI n) x r)) 0 0 (fun _ => False) := by
  refine Met.ofW (cc := cX1_verdict) (maxL := 6) (ret := (some .int)) (by decide) rfl ?_
  intro p e s m args below meth c s₁ B hml hv
  obtain ⟨rfl, hP, hK⟩ := hv
  have hx := B.exec
  have hb := B.bytes
  have hr := B.returns
  have hts := atoms_spec (ws := wsX1_verdict) B.pre
  have hown : s.vm.findClass RX1 = some m.cls := findClass_of_methodNamed B.named
  have hlk := B.notSynchronized
  have hin : ∀ w ∈ wsX10, w ∈ wsX1_verdict := fun w h => List.mem_cons_of_mem _ (List.mem_append_right _ h)
  have hf_25 := hts (.fieldLink RX1 25 "JumpBoardModel" "recordMark" "I") (by decide +kernel)
  have hf_29 := hts (.fieldLink RX1 29 "JumpBoardModel" "limitWind" "I") (by decide +kernel)
  have hl := lv_entry ([.ref h, .int x, .int r]) (n := 6) (Nat.le_of_ble_eq_true rfl)
  rw [lg_entry_eq]
  generalize (lg_sl ([.ref h, .int x, .int r]) ++ List.replicate (6 - (lg_sl ([.ref h, .int x, .int r])).length) Slot.unset).toArray = ls at hl ⊢
  have hl : lv_has ls 6 [(0, .ref h), (1, .int x), (2, .int r)] := hl
  refine lv_aload_n hx hb dX1_verdict_0 rfl (lv_at hl 0 rfl) ?_
  refine lv_iload_n hx hb dX1_verdict_1 rfl (lv_at hl 1 rfl) ?_
  refine q_cv [.int x] (rest := []) ⟨hx, hb, hml, hown, hts⟩ (mX1_isJumper l dC dI h qb qj qm qw qt cA n rec lim fb fj fm fw ft x (by omega)) gX1_verdict_X1_isJumper rfl rfl rfl hdX1_isJumper ⟨Nat.le_of_ble_eq_true rfl, Nat.le_of_ble_eq_true rfl⟩ rfl hK hP rfl rfl hl.1 rfl (Nat.le_of_ble_eq_true rfl) dX1_verdict_2 ⟨Nat.zero_le _, Nat.zero_le _⟩ ?_
  refine lv_if_eq (tgt := 15) hx hb dX1_verdict_5 (by decide) (fun c_1 => ?_) (fun c_1 => ?_)
  · skip
    have c_1 : (jmp (nI n) x) = false := b2i_0 c_1
    refine lv_sipush (v := (-1000)) hx hb dX1_verdict_15 (by decide) ?_
    exact q_ri hx hb hr hlk (by simp [aVerdict, c_1]) dX1_verdict_18
  · skip
    have c_1 : (jmp (nI n) x) = true := b2i_n c_1
    refine lv_iload_n hx hb dX1_verdict_8 rfl (lv_at hl 2 rfl) ?_
    refine q_cs [.int r] (rest := []) ⟨hx, hb, hml, hown, hts⟩ (mX1_isRound l r) gX1_verdict_X1_isRound rfl rfl rfl hdX1_isRound ⟨Nat.le_of_ble_eq_true rfl, Nat.le_of_ble_eq_true rfl⟩ rfl hl.1 rfl (Nat.le_of_ble_eq_true rfl) dX1_verdict_9 ⟨Nat.zero_le _, Nat.zero_le _⟩ ?_
    refine lv_if_ne (tgt := 19) hx hb dX1_verdict_12 (by decide) (fun c_2 => ?_) (fun c_2 => ?_)
    · skip
      have c_2 : (rnd r) = true := b2i_n c_2
      obtain ⟨j, hj, rfl⟩ := jmp_of c_1 hn
      obtain ⟨r6, hr6, rfl⟩ := rnd_of c_2
      refine lv_aload_n hx hb dX1_verdict_19 rfl (lv_at hl 0 rfl) ?_
      refine lv_iconst (v := 0) hx hb dX1_verdict_20 (by decide) ?_
      refine lv_iload_n hx hb dX1_verdict_21 rfl (lv_at hl 1 rfl) ?_
      refine lv_iload_n hx hb dX1_verdict_22 rfl (lv_at hl 2 rfl) ?_
      refine q_cv [.int 0, .int (nI j), .int (nI r6)] (rest := []) ⟨hx, hb, hml, hown, hts⟩ (mX1_code l dC dI h qb qj qm qw qt cA n rec lim fb fj fm fw ft M V 0 j r6 hM hV (by omega) (by omega)) gX1_verdict_X1_code rfl rfl rfl hdX1_code ⟨Nat.le_of_ble_eq_true rfl, Nat.le_of_ble_eq_true rfl⟩ rfl hK hP rfl rfl hl.1 rfl (Nat.le_of_ble_eq_true rfl) dX1_verdict_23 ⟨Nat.zero_le _, Nat.zero_le _⟩ ?_
      refine q_top (y := M j r6) (by rfl) ?_
      refine lv_istore_n (lv' := [(3, .int (M j r6)), (0, .ref h), (1, .int (nI j)), (2, .int (nI r6))]) hx hb dX1_verdict_26 rfl hl (by decide) rfl (fun ls hl => ?_)
      refine lv_aload_n hx hb dX1_verdict_27 rfl (lv_at hl 1 rfl) ?_
      refine lv_iconst (v := 1) hx hb dX1_verdict_28 (by decide) ?_
      refine lv_iload_n hx hb dX1_verdict_29 rfl (lv_at hl 2 rfl) ?_
      refine lv_iload_n hx hb dX1_verdict_30 rfl (lv_at hl 3 rfl) ?_
      refine q_cv [.int 1, .int (nI j), .int (nI r6)] (rest := []) ⟨hx, hb, hml, hown, hts⟩ (mX1_code l dC dI h qb qj qm qw qt cA n rec lim fb fj fm fw ft M V 1 j r6 hM hV (by omega) (by omega)) gX1_verdict_X1_code rfl rfl rfl hdX1_code ⟨Nat.le_of_ble_eq_true rfl, Nat.le_of_ble_eq_true rfl⟩ rfl hK hP rfl rfl hl.1 rfl (Nat.le_of_ble_eq_true rfl) dX1_verdict_31 ⟨Nat.zero_le _, Nat.zero_le _⟩ ?_
      refine q_top (y := V j r6) (by rfl) ?_
      refine lv_istore (lv' := [(4, .int (V j r6)), (3, .int (M j r6)), (0, .ref h), (1, .int (nI j)), (2, .int (nI r6))]) hx hb dX1_verdict_34 hl (by decide) rfl (fun ls hl => ?_)
      refine lv_iload_n hx hb dX1_verdict_36 rfl (lv_at hl 1 rfl) ?_
      refine q_jn (pj := 45) (v := ifz (!decide (M j r6 = 0)) 1) (rest := []) ?_ (fun J => ?_)
      rotate_left
      · skip
        refine lv_if_eq (tgt := 44) hx hb dX1_verdict_37 (by decide) (fun c_3 => ?_) (fun c_3 => ?_)
        · skip
          refine lv_iconst (v := 0) hx hb dX1_verdict_44 (by decide) ?_
          exact q_top (by simp [ifz, c_1, c_2, c_3] <;> simp_all) J
        · skip
          refine lv_iconst (v := 1) hx hb dX1_verdict_40 (by decide) ?_
          refine lv_goto (tgt := 45) hx hb dX1_verdict_41 (by decide) ?_
          exact q_top (by simp [ifz, c_1, c_2, c_3] <;> simp_all) J
      refine lv_istore (lv' := [(5, .int (ifz (!decide (M j r6 = 0)) 1)), (4, .int (V j r6)), (3, .int (M j r6)), (0, .ref h), (1, .int (nI j)), (2, .int (nI r6))]) hx hb dX1_verdict_45 hl (by decide) rfl (fun ls hl => ?_)
      refine lv_iload hx hb dX1_verdict_47 (lv_at hl 0 rfl) ?_
      refine lv_iload hx hb dX1_verdict_49 (lv_at hl 1 rfl) ?_
      refine lv_bipush (v := 100) hx hb dX1_verdict_51 (by decide) ?_
      refine q_jn (pj := 61) (v := ifz (!decide (V j r6 = 100)) 2) (rest := [.int (ifz (!decide (M j r6 = 0)) 1)]) ?_ (fun J => ?_)
      rotate_left
      · skip
        refine lv_icmp_eq (tgt := 60) hx hb dX1_verdict_53 (by decide) (fun c_4 => ?_) (fun c_4 => ?_)
        · skip
          refine lv_iconst (v := 0) hx hb dX1_verdict_60 (by decide) ?_
          exact q_top (by simp [ifz, c_1, c_2, c_4] <;> simp_all) J
        · skip
          refine lv_iconst (v := 2) hx hb dX1_verdict_56 (by decide) ?_
          refine lv_goto (tgt := 61) hx hb dX1_verdict_57 (by decide) ?_
          exact q_top (by simp [ifz, c_1, c_2, c_4] <;> simp_all) J
      refine lv_iadd hx hb dX1_verdict_61 ?_
      refine lv_istore (lv' := [(5, .int ((ifz (!decide (M j r6 = 0)) 1) + (ifz (!decide (V j r6 = 100)) 2))), (4, .int (V j r6)), (3, .int (M j r6)), (0, .ref h), (1, .int (nI j)), (2, .int (nI r6))]) hx hb dX1_verdict_62 hl (by decide) rfl (fun ls hl => ?_)
      refine lv_iload hx hb dX1_verdict_64 (lv_at hl 0 rfl) ?_
      refine lv_aload_n hx hb dX1_verdict_66 rfl (lv_at hl 3 rfl) ?_
      refine lv_iload_n hx hb dX1_verdict_67 rfl (lv_at hl 4 rfl) ?_
      refine lv_iload_n hx hb dX1_verdict_68 rfl (lv_at hl 5 rfl) ?_
      refine q_cv [.int (nI j), .int (nI r6)] (rest := [.int ((ifz (!decide (M j r6 = 0)) 1) + (ifz (!decide (V j r6 = 100)) 2))]) ⟨hx, hb, hml, hown, hts⟩ (mX1_isLegal l dC dI h qb qj qm qw qt cA n rec lim fb fj fm fw ft M V j r6 hM hV hT (by omega) (by omega)) gX1_verdict_X1_isLegal rfl rfl rfl hdX1_isLegal ⟨Nat.le_of_ble_eq_true rfl, Nat.le_of_ble_eq_true rfl⟩ rfl hK hP rfl rfl hl.1 rfl (Nat.le_of_ble_eq_true rfl) dX1_verdict_69 ⟨Nat.zero_le _, Nat.zero_le _⟩ ?_
      refine q_jn (pj := 80) (v := ifz (lgl M V lim j r6) 4) (rest := [.int ((ifz (!decide (M j r6 = 0)) 1) + (ifz (!decide (V j r6 = 100)) 2))]) ?_ (fun J => ?_)
      rotate_left
      · skip
        refine lv_if_eq (tgt := 79) hx hb dX1_verdict_72 (by decide) (fun c_5 => ?_) (fun c_5 => ?_)
        · skip
          have c_5 : (lgl M V lim j r6) = false := b2i_0 c_5
          refine lv_iconst (v := 0) hx hb dX1_verdict_79 (by decide) ?_
          exact q_top (by simp [ifz, c_1, c_2, c_5] <;> simp_all) J
        · skip
          have c_5 : (lgl M V lim j r6) = true := b2i_n c_5
          refine lv_iconst (v := 4) hx hb dX1_verdict_75 (by decide) ?_
          refine lv_goto (tgt := 80) hx hb dX1_verdict_76 (by decide) ?_
          exact q_top (by simp [ifz, c_1, c_2, c_5] <;> simp_all) J
      refine lv_iadd hx hb dX1_verdict_80 ?_
      refine lv_istore (lv' := [(5, .int (((ifz (!decide (M j r6 = 0)) 1) + (ifz (!decide (V j r6 = 100)) 2)) + (ifz (lgl M V lim j r6) 4))), (4, .int (V j r6)), (3, .int (M j r6)), (0, .ref h), (1, .int (nI j)), (2, .int (nI r6))]) hx hb dX1_verdict_81 hl (by decide) rfl (fun ls hl => ?_)
      refine lv_iload hx hb dX1_verdict_83 (lv_at hl 0 rfl) ?_
      refine lv_aload_n hx hb dX1_verdict_85 rfl (lv_at hl 3 rfl) ?_
      refine lv_iconst (v := 3) hx hb dX1_verdict_86 (by decide) ?_
      refine lv_iconst (v := 0) hx hb dX1_verdict_87 (by decide) ?_
      refine lv_iload_n hx hb dX1_verdict_88 rfl (lv_at hl 2 rfl) ?_
      refine lv_aload_n hx hb dX1_verdict_89 rfl (lv_at hl 3 rfl) ?_
      refine va_get (D := (dC, dI)) (ci := 1) (v := .int rec) (C := RX1) (T := TX1) (N := 8) hx hb hts hin hown hK hP 0 rfl rfl 6 (by decide) hf_25 (fun _ h9 => h9) rfl dX1_verdict_90 ?_
      refine q_cv [.int 3, .int 0, .int (M j r6), .int rec] (rest := [.int (((ifz (!decide (M j r6 = 0)) 1) + (ifz (!decide (V j r6 = 100)) 2)) + (ifz (lgl M V lim j r6) 4))]) ⟨hx, hb, hml, hown, hts⟩ (mX1_fit l dC dI h qb qj qm qw qt cA n rec lim fb fj fm fw ft 3 0 (M j r6) rec hT (by omega)) gX1_verdict_X1_fit rfl rfl rfl hdX1_fit ⟨Nat.le_of_ble_eq_true rfl, Nat.le_of_ble_eq_true rfl⟩ rfl hK hP rfl rfl hl.1 rfl (Nat.le_of_ble_eq_true rfl) dX1_verdict_93 ⟨Nat.zero_le _, Nat.zero_le _⟩ ?_
      refine q_top (y := b2i (fitv 3 0 (M j r6) rec)) rfl ?_
      refine q_jn (pj := 105) (v := ifz (fitv 3 0 (M j r6) rec) 8) (rest := [.int (((ifz (!decide (M j r6 = 0)) 1) + (ifz (!decide (V j r6 = 100)) 2)) + (ifz (lgl M V lim j r6) 4))]) ?_ (fun J => ?_)
      rotate_left
      · skip
        refine lv_if_eq (tgt := 104) hx hb dX1_verdict_96 (by decide) (fun c_6 => ?_) (fun c_6 => ?_)
        · skip
          have c_6 : (fitv 3 0 (M j r6) rec) = false := b2i_0 c_6
          refine lv_iconst (v := 0) hx hb dX1_verdict_104 (by decide) ?_
          exact q_top (by simp [ifz, c_1, c_2, c_6] <;> simp_all) J
        · skip
          have c_6 : (fitv 3 0 (M j r6) rec) = true := b2i_n c_6
          refine lv_bipush (v := 8) hx hb dX1_verdict_99 (by decide) ?_
          refine lv_goto (tgt := 105) hx hb dX1_verdict_101 (by decide) ?_
          exact q_top (by simp [ifz, c_1, c_2, c_6] <;> simp_all) J
      refine lv_iadd hx hb dX1_verdict_105 ?_
      refine lv_istore (lv' := [(5, .int ((((ifz (!decide (M j r6 = 0)) 1) + (ifz (!decide (V j r6 = 100)) 2)) + (ifz (lgl M V lim j r6) 4)) + (ifz (fitv 3 0 (M j r6) rec) 8))), (4, .int (V j r6)), (3, .int (M j r6)), (0, .ref h), (1, .int (nI j)), (2, .int (nI r6))]) hx hb dX1_verdict_106 hl (by decide) rfl (fun ls hl => ?_)
      refine lv_iload hx hb dX1_verdict_108 (lv_at hl 0 rfl) ?_
      refine lv_aload_n hx hb dX1_verdict_110 rfl (lv_at hl 3 rfl) ?_
      refine lv_iconst (v := 2) hx hb dX1_verdict_111 (by decide) ?_
      refine lv_iconst (v := 0) hx hb dX1_verdict_112 (by decide) ?_
      refine lv_iload_n hx hb dX1_verdict_113 rfl (lv_at hl 2 rfl) ?_
      refine lv_aload_n hx hb dX1_verdict_114 rfl (lv_at hl 3 rfl) ?_
      refine va_get (D := (dC, dI)) (ci := 1) (v := .int rec) (C := RX1) (T := TX1) (N := 8) hx hb hts hin hown hK hP 0 rfl rfl 6 (by decide) hf_25 (fun _ h9 => h9) rfl dX1_verdict_115 ?_
      refine q_cv [.int 2, .int 0, .int (M j r6), .int rec] (rest := [.int ((((ifz (!decide (M j r6 = 0)) 1) + (ifz (!decide (V j r6 = 100)) 2)) + (ifz (lgl M V lim j r6) 4)) + (ifz (fitv 3 0 (M j r6) rec) 8))]) ⟨hx, hb, hml, hown, hts⟩ (mX1_fit l dC dI h qb qj qm qw qt cA n rec lim fb fj fm fw ft 2 0 (M j r6) rec hT (by omega)) gX1_verdict_X1_fit rfl rfl rfl hdX1_fit ⟨Nat.le_of_ble_eq_true rfl, Nat.le_of_ble_eq_true rfl⟩ rfl hK hP rfl rfl hl.1 rfl (Nat.le_of_ble_eq_true rfl) dX1_verdict_118 ⟨Nat.zero_le _, Nat.zero_le _⟩ ?_
      refine q_top (y := b2i (fitv 2 0 (M j r6) rec)) rfl ?_
      refine q_jn (pj := 130) (v := ifz (fitv 2 0 (M j r6) rec) 16) (rest := [.int ((((ifz (!decide (M j r6 = 0)) 1) + (ifz (!decide (V j r6 = 100)) 2)) + (ifz (lgl M V lim j r6) 4)) + (ifz (fitv 3 0 (M j r6) rec) 8))]) ?_ (fun J => ?_)
      rotate_left
      · skip
        refine lv_if_eq (tgt := 129) hx hb dX1_verdict_121 (by decide) (fun c_7 => ?_) (fun c_7 => ?_)
        · skip
          have c_7 : (fitv 2 0 (M j r6) rec) = false := b2i_0 c_7
          refine lv_iconst (v := 0) hx hb dX1_verdict_129 (by decide) ?_
          exact q_top (by simp [ifz, c_1, c_2, c_7] <;> simp_all) J
        · skip
          have c_7 : (fitv 2 0 (M j r6) rec) = true := b2i_n c_7
          refine lv_bipush (v := 16) hx hb dX1_verdict_124 (by decide) ?_
          refine lv_goto (tgt := 130) hx hb dX1_verdict_126 (by decide) ?_
          exact q_top (by simp [ifz, c_1, c_2, c_7] <;> simp_all) J
      refine lv_iadd hx hb dX1_verdict_130 ?_
      refine lv_istore (lv' := [(5, .int (((((ifz (!decide (M j r6 = 0)) 1) + (ifz (!decide (V j r6 = 100)) 2)) + (ifz (lgl M V lim j r6) 4)) + (ifz (fitv 3 0 (M j r6) rec) 8)) + (ifz (fitv 2 0 (M j r6) rec) 16))), (4, .int (V j r6)), (3, .int (M j r6)), (0, .ref h), (1, .int (nI j)), (2, .int (nI r6))]) hx hb dX1_verdict_131 hl (by decide) rfl (fun ls hl => ?_)
      refine lv_iload hx hb dX1_verdict_133 (lv_at hl 0 rfl) ?_
      refine lv_aload_n hx hb dX1_verdict_135 rfl (lv_at hl 3 rfl) ?_
      refine lv_iconst (v := 4) hx hb dX1_verdict_136 (by decide) ?_
      refine lv_iconst (v := 0) hx hb dX1_verdict_137 (by decide) ?_
      refine lv_iload_n hx hb dX1_verdict_138 rfl (lv_at hl 2 rfl) ?_
      refine lv_aload_n hx hb dX1_verdict_139 rfl (lv_at hl 3 rfl) ?_
      refine va_get (D := (dC, dI)) (ci := 1) (v := .int rec) (C := RX1) (T := TX1) (N := 8) hx hb hts hin hown hK hP 0 rfl rfl 6 (by decide) hf_25 (fun _ h9 => h9) rfl dX1_verdict_140 ?_
      refine q_cv [.int 4, .int 0, .int (M j r6), .int rec] (rest := [.int (((((ifz (!decide (M j r6 = 0)) 1) + (ifz (!decide (V j r6 = 100)) 2)) + (ifz (lgl M V lim j r6) 4)) + (ifz (fitv 3 0 (M j r6) rec) 8)) + (ifz (fitv 2 0 (M j r6) rec) 16))]) ⟨hx, hb, hml, hown, hts⟩ (mX1_fit l dC dI h qb qj qm qw qt cA n rec lim fb fj fm fw ft 4 0 (M j r6) rec hT (by omega)) gX1_verdict_X1_fit rfl rfl rfl hdX1_fit ⟨Nat.le_of_ble_eq_true rfl, Nat.le_of_ble_eq_true rfl⟩ rfl hK hP rfl rfl hl.1 rfl (Nat.le_of_ble_eq_true rfl) dX1_verdict_143 ⟨Nat.zero_le _, Nat.zero_le _⟩ ?_
      refine q_top (y := b2i (fitv 4 0 (M j r6) rec)) rfl ?_
      refine q_jn (pj := 155) (v := ifz (fitv 4 0 (M j r6) rec) 32) (rest := [.int (((((ifz (!decide (M j r6 = 0)) 1) + (ifz (!decide (V j r6 = 100)) 2)) + (ifz (lgl M V lim j r6) 4)) + (ifz (fitv 3 0 (M j r6) rec) 8)) + (ifz (fitv 2 0 (M j r6) rec) 16))]) ?_ (fun J => ?_)
      rotate_left
      · skip
        refine lv_if_eq (tgt := 154) hx hb dX1_verdict_146 (by decide) (fun c_8 => ?_) (fun c_8 => ?_)
        · skip
          have c_8 : (fitv 4 0 (M j r6) rec) = false := b2i_0 c_8
          refine lv_iconst (v := 0) hx hb dX1_verdict_154 (by decide) ?_
          exact q_top (by simp [ifz, c_1, c_2, c_8] <;> simp_all) J
        · skip
          have c_8 : (fitv 4 0 (M j r6) rec) = true := b2i_n c_8
          refine lv_bipush (v := 32) hx hb dX1_verdict_149 (by decide) ?_
          refine lv_goto (tgt := 155) hx hb dX1_verdict_151 (by decide) ?_
          exact q_top (by simp [ifz, c_1, c_2, c_8] <;> simp_all) J
      refine lv_iadd hx hb dX1_verdict_155 ?_
      refine lv_istore (lv' := [(5, .int ((((((ifz (!decide (M j r6 = 0)) 1) + (ifz (!decide (V j r6 = 100)) 2)) + (ifz (lgl M V lim j r6) 4)) + (ifz (fitv 3 0 (M j r6) rec) 8)) + (ifz (fitv 2 0 (M j r6) rec) 16)) + (ifz (fitv 4 0 (M j r6) rec) 32))), (4, .int (V j r6)), (3, .int (M j r6)), (0, .ref h), (1, .int (nI j)), (2, .int (nI r6))]) hx hb dX1_verdict_156 hl (by decide) rfl (fun ls hl => ?_)
      refine lv_iload hx hb dX1_verdict_158 (lv_at hl 0 rfl) ?_
      refine lv_aload_n hx hb dX1_verdict_160 rfl (lv_at hl 3 rfl) ?_
      refine lv_iconst (v := 1) hx hb dX1_verdict_161 (by decide) ?_
      refine lv_iconst (v := 1) hx hb dX1_verdict_162 (by decide) ?_
      refine lv_iload hx hb dX1_verdict_163 (lv_at hl 1 rfl) ?_
      refine lv_aload_n hx hb dX1_verdict_165 rfl (lv_at hl 3 rfl) ?_
      refine va_get (D := (dC, dI)) (ci := 1) (v := .int lim) (C := RX1) (T := TX1) (N := 8) hx hb hts hin hown hK hP 0 rfl rfl 7 (by decide) hf_29 (fun _ h9 => h9) rfl dX1_verdict_166 ?_
      refine q_cv [.int 1, .int 1, .int (V j r6), .int lim] (rest := [.int ((((((ifz (!decide (M j r6 = 0)) 1) + (ifz (!decide (V j r6 = 100)) 2)) + (ifz (lgl M V lim j r6) 4)) + (ifz (fitv 3 0 (M j r6) rec) 8)) + (ifz (fitv 2 0 (M j r6) rec) 16)) + (ifz (fitv 4 0 (M j r6) rec) 32))]) ⟨hx, hb, hml, hown, hts⟩ (mX1_fit l dC dI h qb qj qm qw qt cA n rec lim fb fj fm fw ft 1 1 (V j r6) lim hT (by omega)) gX1_verdict_X1_fit rfl rfl rfl hdX1_fit ⟨Nat.le_of_ble_eq_true rfl, Nat.le_of_ble_eq_true rfl⟩ rfl hK hP rfl rfl hl.1 rfl (Nat.le_of_ble_eq_true rfl) dX1_verdict_169 ⟨Nat.zero_le _, Nat.zero_le _⟩ ?_
      refine q_top (y := b2i (fitv 1 1 (V j r6) lim)) rfl ?_
      refine q_jn (pj := 181) (v := ifz (fitv 1 1 (V j r6) lim) 64) (rest := [.int ((((((ifz (!decide (M j r6 = 0)) 1) + (ifz (!decide (V j r6 = 100)) 2)) + (ifz (lgl M V lim j r6) 4)) + (ifz (fitv 3 0 (M j r6) rec) 8)) + (ifz (fitv 2 0 (M j r6) rec) 16)) + (ifz (fitv 4 0 (M j r6) rec) 32))]) ?_ (fun J => ?_)
      rotate_left
      · skip
        refine lv_if_eq (tgt := 180) hx hb dX1_verdict_172 (by decide) (fun c_9 => ?_) (fun c_9 => ?_)
        · skip
          have c_9 : (fitv 1 1 (V j r6) lim) = false := b2i_0 c_9
          refine lv_iconst (v := 0) hx hb dX1_verdict_180 (by decide) ?_
          exact q_top (by simp [ifz, c_1, c_2, c_9] <;> simp_all) J
        · skip
          have c_9 : (fitv 1 1 (V j r6) lim) = true := b2i_n c_9
          refine lv_bipush (v := 64) hx hb dX1_verdict_175 (by decide) ?_
          refine lv_goto (tgt := 181) hx hb dX1_verdict_177 (by decide) ?_
          exact q_top (by simp [ifz, c_1, c_2, c_9] <;> simp_all) J
      refine lv_iadd hx hb dX1_verdict_181 ?_
      refine lv_istore (lv' := [(5, .int (((((((ifz (!decide (M j r6 = 0)) 1) + (ifz (!decide (V j r6 = 100)) 2)) + (ifz (lgl M V lim j r6) 4)) + (ifz (fitv 3 0 (M j r6) rec) 8)) + (ifz (fitv 2 0 (M j r6) rec) 16)) + (ifz (fitv 4 0 (M j r6) rec) 32)) + (ifz (fitv 1 1 (V j r6) lim) 64))), (4, .int (V j r6)), (3, .int (M j r6)), (0, .ref h), (1, .int (nI j)), (2, .int (nI r6))]) hx hb dX1_verdict_182 hl (by decide) rfl (fun ls hl => ?_)
      refine lv_iload hx hb dX1_verdict_184 (lv_at hl 0 rfl) ?_
      refine lv_aload_n hx hb dX1_verdict_186 rfl (lv_at hl 3 rfl) ?_
      refine lv_iload_n hx hb dX1_verdict_187 rfl (lv_at hl 4 rfl) ?_
      refine lv_iload_n hx hb dX1_verdict_188 rfl (lv_at hl 5 rfl) ?_
      refine q_cv [.int (nI j), .int (nI r6)] (rest := [.int (((((((ifz (!decide (M j r6 = 0)) 1) + (ifz (!decide (V j r6 = 100)) 2)) + (ifz (lgl M V lim j r6) 4)) + (ifz (fitv 3 0 (M j r6) rec) 8)) + (ifz (fitv 2 0 (M j r6) rec) 16)) + (ifz (fitv 4 0 (M j r6) rec) 32)) + (ifz (fitv 1 1 (V j r6) lim) 64))]) ⟨hx, hb, hml, hown, hts⟩ (mX1_isNewBest l dC dI h qb qj qm qw qt cA n rec lim fb fj fm fw ft M V j r6 hM hV hT (by omega) (by omega)) gX1_verdict_X1_isNewBest rfl rfl rfl hdX1_isNewBest ⟨Nat.le_of_ble_eq_true rfl, Nat.le_of_ble_eq_true rfl⟩ rfl hK hP rfl rfl hl.1 rfl (Nat.le_of_ble_eq_true rfl) dX1_verdict_189 ⟨Nat.zero_le _, Nat.zero_le _⟩ ?_
      refine q_jn (pj := 202) (v := ifz (bts (M j) r6) 128) (rest := [.int (((((((ifz (!decide (M j r6 = 0)) 1) + (ifz (!decide (V j r6 = 100)) 2)) + (ifz (lgl M V lim j r6) 4)) + (ifz (fitv 3 0 (M j r6) rec) 8)) + (ifz (fitv 2 0 (M j r6) rec) 16)) + (ifz (fitv 4 0 (M j r6) rec) 32)) + (ifz (fitv 1 1 (V j r6) lim) 64))]) ?_ (fun J => ?_)
      rotate_left
      · skip
        refine lv_if_eq (tgt := 201) hx hb dX1_verdict_192 (by decide) (fun c_10 => ?_) (fun c_10 => ?_)
        · skip
          have c_10 : (bts (M j) r6) = false := b2i_0 c_10
          refine lv_iconst (v := 0) hx hb dX1_verdict_201 (by decide) ?_
          exact q_top (by simp [ifz, c_1, c_2, c_10] <;> simp_all) J
        · skip
          have c_10 : (bts (M j) r6) = true := b2i_n c_10
          refine lv_sipush (v := 128) hx hb dX1_verdict_195 (by decide) ?_
          refine lv_goto (tgt := 202) hx hb dX1_verdict_198 (by decide) ?_
          exact q_top (by simp [ifz, c_1, c_2, c_10] <;> simp_all) J
      refine lv_iadd hx hb dX1_verdict_202 ?_
      exact q_ri hx hb hr hlk (by rw [aVerdict, if_pos (by simp [c_1, c_2]), nI_clamp (by omega), nI_clamp (by omega), vdt]) dX1_verdict_203
    · skip
      have c_2 : (rnd r) = false := b2i_0 c_2
      refine lv_sipush (v := (-1000)) hx hb dX1_verdict_15 (by decide) ?_
      exact q_ri hx hb hr hlk (by simp [aVerdict, c_1, c_2]) dX1_verdict_18

theorem hdX1_told : yX1_told.cls = RX1 ∧ yX1_told.cls ≠ "java/lang/invoke/MethodHandle" ∧ yX1_told.cls ≠ "java/lang/invoke/VarHandle" ∧ (parseMethodDescriptor yX1_told.desc).map (fun d => d.parameters.length) = some 1 := by decide +kernel
set_option maxHeartbeats 4000000 in
set_option maxRecDepth 100000 in
theorem mX1_told (l : Launch) (dC : Nat → ClassId) (dI : Nat → Nat → Nat) (h qb qj qm qw qt : Nat) (cA : ClassId) (n : Nat) (rec lim : Int32) (fb fj fm fw ft : Nat → Int32) (M : Nat → Nat → Int32) (V : Nat → Nat → Int32) (J : Nat → Nat) (w : Int32) (hM : ∀ j r, j < 8 → r < 6 → (if nI r < fj j then fm (6 * j + r) else 0) = M j r) (hV : ∀ j r, j < 8 → r < 6 → (if nI r < fj j then fw (6 * j + r) else 100) = V j r) (hT : ft 0 = 1 ∧ ft 1 = 3 ∧ ft 2 = 4 ∧ ft 3 = 6 ∧ ft 4 = 2 ∧ ft 5 = 5) (hn : n ≤ 8) (hJ : ∀ j, j < 8 → fj j = nI (J j) ∧ J j ≤ 6) : Met l yX1_told wsX1_told ({ frames := 3, cells := 0, slots := 0, locals := 67 }) (va_Pc [.ref h, .int w] (fun U => va_P (dC, dI) vwCl (wY h qb qj qm qw qt cA (nI n) rec lim fb fj fm fw ft) U.heap ∧ va_K (dC, dI) vwCl [(cA, .int)] U)) (QcRead (a1Told J M V n rec lim w)) 0 0 (fun _ => False) := by
  refine Met.ofW (cc := cX1_told) (maxL := 6) (ret := (some .int)) (by decide) rfl ?_
  intro p e s m args below meth c s₁ B hml hv
  obtain ⟨rfl, hP, hK⟩ := hv
  have hx := B.exec
  have hb := B.bytes
  have hr := B.returns
  have hts := atoms_spec (ws := wsX1_told) B.pre
  have hown : s.vm.findClass RX1 = some m.cls := findClass_of_methodNamed B.named
  have hlk := B.notSynchronized
  have hin : ∀ w ∈ wsX10, w ∈ wsX1_told := fun w h => List.mem_cons_of_mem _ (List.mem_append_right _ h)
  have hf_13 := hts (.fieldLink RX1 13 "JumpBoardModel" "jumped" "[I") (by decide +kernel)
  have hf_25 := hts (.fieldLink RX1 25 "JumpBoardModel" "recordMark" "I") (by decide +kernel)
  have hf_29 := hts (.fieldLink RX1 29 "JumpBoardModel" "limitWind" "I") (by decide +kernel)
  have hf_32 := hts (.fieldLink RX1 32 "JumpBoardModel" "jumpers" "I") (by decide +kernel)
  have hl := lv_entry ([.ref h, .int w]) (n := 6) (Nat.le_of_ble_eq_true rfl)
  rw [lg_entry_eq]
  generalize (lg_sl ([.ref h, .int w]) ++ List.replicate (6 - (lg_sl ([.ref h, .int w])).length) Slot.unset).toArray = ls at hl ⊢
  have hl : lv_has ls 6 [(0, .ref h), (1, .int w)] := hl
  refine lv_iload_n hx hb dX1_told_0 rfl (lv_at hl 1 rfl) ?_
  refine lv_if_ne (tgt := 9) hx hb dX1_told_1 (by decide) (fun c_1 => ?_) (fun c_1 => ?_)
  · skip
    refine lv_iload_n hx hb dX1_told_9 rfl (lv_at hl 1 rfl) ?_
    refine lv_iconst (v := 4) hx hb dX1_told_10 (by decide) ?_
    refine lv_icmp_ne (tgt := 19) hx hb dX1_told_11 (by decide) (fun c_2 => ?_) (fun c_2 => ?_)
    · skip
      refine lv_iload_n hx hb dX1_told_19 rfl (lv_at hl 1 rfl) ?_
      refine lv_iconst (v := 5) hx hb dX1_told_20 (by decide) ?_
      refine lv_icmp_ne (tgt := 29) hx hb dX1_told_21 (by decide) (fun c_3 => ?_) (fun c_3 => ?_)
      · skip
        refine lv_iload_n hx hb dX1_told_29 rfl (lv_at hl 1 rfl) ?_
        refine lv_iconst (v := 1) hx hb dX1_told_30 (by decide) ?_
        refine lv_iconst (v := 3) hx hb dX1_told_31 (by decide) ?_
        refine q_cs [.int w, .int 1, .int 3] (rest := []) ⟨hx, hb, hml, hown, hts⟩ (mX1_isIn l w 1 3) gX1_told_X1_isIn rfl rfl rfl hdX1_isIn ⟨Nat.le_of_ble_eq_true rfl, Nat.le_of_ble_eq_true rfl⟩ rfl hl.1 rfl (Nat.le_of_ble_eq_true rfl) dX1_told_32 ⟨Nat.zero_le _, Nat.zero_le _⟩ ?_
        refine lv_if_ne (tgt := 42) hx hb dX1_told_35 (by decide) (fun c_4 => ?_) (fun c_4 => ?_)
        · skip
          have c_4 : (inR w 1 3) = true := b2i_n c_4
          refine lv_iconst (v := 0) hx hb dX1_told_42 (by decide) ?_
          refine lv_istore_n (lv' := [(2, .int 0), (0, .ref h), (1, .int w)]) hx hb dX1_told_43 rfl hl (by decide) rfl (fun ls hl => ?_)
          refine lv_iconst (v := 0) hx hb dX1_told_44 (by decide) ?_
          refine lv_istore_n (lv' := [(3, .int 0), (2, .int 0), (0, .ref h), (1, .int w)]) hx hb dX1_told_45 rfl hl (by decide) rfl (fun ls hl => ?_)
          refine q_lp (head := 46) (n) (fun i => [(0, .ref h), (1, .int w), (2, .int (nI (sumN (fun t => cntB (tqB M V lim w t) (J t)) i))), (3, .int (nI i))]) (fun i => True) (0) (by omega) (trivial) (q_hl (lv_sub (l' := [(0, .ref h), (1, .int w), (2, .int 0), (3, .int 0)]) hl [2, 3, 1, 0] rfl) (q_ck (q_ck (q_ce (by rfl) (q_ce (by rfl) (rfl)))))) ?_ ?_
          · intro i hi_i hI_i ih_i ls hl
            have hl : lv_has ls 6 [(0, .ref h), (1, .int w), (2, .int (nI (sumN (fun t => cntB (tqB M V lim w t) (J t)) i))), (3, .int (nI i))] := hl
            refine lv_iload_n hx hb dX1_told_46 rfl (lv_at hl 3 rfl) ?_
            refine lv_aload_n hx hb dX1_told_47 rfl (lv_at hl 0 rfl) ?_
            refine va_get (D := (dC, dI)) (ci := 1) (v := .int (nI n)) (C := RX1) (T := TX1) (N := 8) hx hb hts hin hown hK hP 0 rfl rfl 5 (by decide) hf_32 (fun _ h9 => h9) rfl dX1_told_48 ?_
            refine lv_icmp_ge (tgt := 134) hx hb dX1_told_51 (by decide) (fun c_5 => absurd c_5 (nI_ge hi_i (by omega))) (fun c_5 => ?_)
            have hJi := (hJ i (by omega)).2
            refine lv_iconst (v := 0) hx hb dX1_told_54 (by decide) ?_
            refine lv_istore (lv' := [(4, .int 0), (0, .ref h), (1, .int w), (2, .int (nI (sumN (fun t => cntB (tqB M V lim w t) (J t)) i))), (3, .int (nI i))]) hx hb dX1_told_55 hl (by decide) rfl (fun ls hl => ?_)
            refine q_lp (head := 57) (J i) (fun k => [(0, .ref h), (1, .int w), (2, .int (nI (sumN (fun t => cntB (tqB M V lim w t) (J t)) i + cntB (tqB M V lim w i) k))), (3, .int (nI i)), (4, .int (nI k))]) (fun k => True) (0) (by omega) (trivial) (q_hl (lv_sub (l' := [(0, .ref h), (1, .int w), (2, .int (nI (sumN (fun t => cntB (tqB M V lim w t) (J t)) i))), (3, .int (nI i)), (4, .int 0)]) hl [1, 2, 3, 4, 0] rfl) (q_ck (q_ck (q_ce (by rfl) (q_ck (q_ce (by rfl) (rfl))))))) ?_ ?_
            · intro k hi_k hI_k ih_k ls hl
              have hl : lv_has ls 6 [(0, .ref h), (1, .int w), (2, .int (nI (sumN (fun t => cntB (tqB M V lim w t) (J t)) i + cntB (tqB M V lim w i) k))), (3, .int (nI i)), (4, .int (nI k))] := hl
              refine lv_iload hx hb dX1_told_57 (lv_at hl 4 rfl) ?_
              refine lv_aload_n hx hb dX1_told_59 rfl (lv_at hl 0 rfl) ?_
              refine va_get (D := (dC, dI)) (ci := 1) (v := .ref qj) (C := RX1) (T := TX1) (N := 8) hx hb hts hin hown hK hP 0 rfl rfl 1 (by decide) hf_13 (fun _ h9 => h9) rfl dX1_told_60 ?_
              refine lv_iload_n hx hb dX1_told_63 rfl (lv_at hl 3 rfl) ?_
              refine q_ald (n := 8) (k := i) hx hb hK hP 2 0 rfl rfl (by omega) (by decide) dX1_told_64 ?_
              refine q_top (y := nI (J i)) (by exact (hJ i (by omega)).1) ?_
              refine lv_icmp_ge (tgt := 128) hx hb dX1_told_65 (by decide) (fun c_6 => absurd c_6 (nI_ge hi_k (by omega))) (fun c_6 => ?_)
              refine lv_iload_n hx hb dX1_told_68 rfl (lv_at hl 1 rfl) ?_
              refine lv_iconst (v := 1) hx hb dX1_told_69 (by decide) ?_
              refine q_jn (pj := 107) (v := b2i (tqB M V lim w i k)) (rest := []) ?_ (fun J => ?_)
              rotate_left
              · skip
                refine lv_icmp_eq (tgt := 102) hx hb dX1_told_70 (by decide) (fun c_7 => ?_) (fun c_7 => ?_)
                · skip
                  refine lv_iconst (v := 1) hx hb dX1_told_102 (by decide) ?_
                  refine lv_goto (tgt := 107) hx hb dX1_told_103 (by decide) ?_
                  exact q_top (by simp [tqB, b2i, c_1, c_2, c_3, c_4, c_7] <;> simp_all) J
                · skip
                  refine lv_iload_n hx hb dX1_told_73 rfl (lv_at hl 1 rfl) ?_
                  refine lv_iconst (v := 2) hx hb dX1_told_74 (by decide) ?_
                  refine lv_icmp_ne (tgt := 92) hx hb dX1_told_75 (by decide) (fun c_8 => ?_) (fun c_8 => ?_)
                  · skip
                    refine lv_aload_n hx hb dX1_told_92 rfl (lv_at hl 0 rfl) ?_
                    refine lv_iload_n hx hb dX1_told_93 rfl (lv_at hl 3 rfl) ?_
                    refine lv_iload hx hb dX1_told_94 (lv_at hl 4 rfl) ?_
                    refine q_cv [.int (nI i), .int (nI k)] (rest := []) ⟨hx, hb, hml, hown, hts⟩ (mX1_isLegal l dC dI h qb qj qm qw qt cA n rec lim fb fj fm fw ft M V i k hM hV hT (by omega) (by omega)) gX1_told_X1_isLegal rfl rfl rfl hdX1_isLegal ⟨Nat.le_of_ble_eq_true rfl, Nat.le_of_ble_eq_true rfl⟩ rfl hK hP rfl rfl hl.1 rfl (Nat.le_of_ble_eq_true rfl) dX1_told_96 ⟨Nat.zero_le _, Nat.zero_le _⟩ ?_
                    refine lv_if_eq (tgt := 106) hx hb dX1_told_99 (by decide) (fun c_9 => ?_) (fun c_9 => ?_)
                    · skip
                      have c_9 : (lgl M V lim i k) = false := b2i_0 c_9
                      refine lv_iconst (v := 0) hx hb dX1_told_106 (by decide) ?_
                      exact q_top (by simp [tqB, b2i, c_1, c_2, c_3, c_4, c_7, c_8, c_9] <;> simp_all) J
                    · skip
                      have c_9 : (lgl M V lim i k) = true := b2i_n c_9
                      refine lv_iconst (v := 1) hx hb dX1_told_102 (by decide) ?_
                      refine lv_goto (tgt := 107) hx hb dX1_told_103 (by decide) ?_
                      exact q_top (by simp [tqB, b2i, c_1, c_2, c_3, c_4, c_7, c_8, c_9] <;> simp_all) J
                  · skip
                    refine lv_aload_n hx hb dX1_told_78 rfl (lv_at hl 0 rfl) ?_
                    refine lv_iconst (v := 0) hx hb dX1_told_79 (by decide) ?_
                    refine lv_iload_n hx hb dX1_told_80 rfl (lv_at hl 3 rfl) ?_
                    refine lv_iload hx hb dX1_told_81 (lv_at hl 4 rfl) ?_
                    refine q_cv [.int 0, .int (nI i), .int (nI k)] (rest := []) ⟨hx, hb, hml, hown, hts⟩ (mX1_code l dC dI h qb qj qm qw qt cA n rec lim fb fj fm fw ft M V 0 i k hM hV (by omega) (by omega)) gX1_told_X1_code rfl rfl rfl hdX1_code ⟨Nat.le_of_ble_eq_true rfl, Nat.le_of_ble_eq_true rfl⟩ rfl hK hP rfl rfl hl.1 rfl (Nat.le_of_ble_eq_true rfl) dX1_told_83 ⟨Nat.zero_le _, Nat.zero_le _⟩ ?_
                    refine q_top (y := M i k) (by rfl) ?_
                    refine lv_if_ne (tgt := 106) hx hb dX1_told_86 (by decide) (fun c_10 => ?_) (fun c_10 => ?_)
                    · skip
                      refine lv_iconst (v := 0) hx hb dX1_told_106 (by decide) ?_
                      exact q_top (by simp [tqB, b2i, c_1, c_2, c_3, c_4, c_7, c_8, c_10] <;> simp_all) J
                    · skip
                      refine lv_goto (tgt := 102) hx hb dX1_told_89 (by decide) ?_
                      refine lv_iconst (v := 1) hx hb dX1_told_102 (by decide) ?_
                      refine lv_goto (tgt := 107) hx hb dX1_told_103 (by decide) ?_
                      exact q_top (by simp [tqB, b2i, c_1, c_2, c_3, c_4, c_7, c_8, c_10] <;> simp_all) J
              refine lv_istore (lv' := [(5, .int (b2i (tqB M V lim w i k))), (0, .ref h), (1, .int w), (2, .int (nI (sumN (fun t => cntB (tqB M V lim w t) (J t)) i + cntB (tqB M V lim w i) k))), (3, .int (nI i)), (4, .int (nI k))]) hx hb dX1_told_107 hl (by decide) rfl (fun ls hl => ?_)
              refine lv_iload_n hx hb dX1_told_109 rfl (lv_at hl 3 rfl) ?_
              refine lv_iload hx hb dX1_told_110 (lv_at hl 0 rfl) ?_
              refine lv_if_eq (tgt := 119) hx hb dX1_told_112 (by decide) (fun c_11 => ?_) (fun c_11 => ?_)
              · skip
                have c_11 : (tqB M V lim w i k) = false := b2i_0 c_11
                refine lv_iconst (v := 0) hx hb dX1_told_119 (by decide) ?_
                refine lv_iadd hx hb dX1_told_120 ?_
                refine lv_istore_n (lv' := [(2, .int ((nI (sumN (fun t => cntB (tqB M V lim w t) (J t)) i + cntB (tqB M V lim w i) k)) + 0)), (5, .int (b2i (tqB M V lim w i k))), (0, .ref h), (1, .int w), (3, .int (nI i)), (4, .int (nI k))]) hx hb dX1_told_121 rfl hl (by decide) rfl (fun ls hl => ?_)
                refine lv_iinc (v := (nI (k + 1))) (lv' := [(4, .int (nI (k + 1))), (2, .int ((nI (sumN (fun t => cntB (tqB M V lim w t) (J t)) i + cntB (tqB M V lim w i) k)) + 0)), (5, .int (b2i (tqB M V lim w i k))), (0, .ref h), (1, .int w), (3, .int (nI i))]) hx hb dX1_told_122 hl (k := 5) rfl (by exact nI_1 _) (by decide) rfl (fun ls hl => ?_)
                refine lv_goto (tgt := 57) hx hb dX1_told_125 (by decide) ?_
                exact ih_k (by exact trivial) ls (q_hl (lv_sub (l' := [(0, .ref h), (1, .int w), (2, .int ((nI (sumN (fun t => cntB (tqB M V lim w t) (J t)) i + cntB (tqB M V lim w i) k)) + 0)), (3, .int (nI i)), (4, .int (nI (k + 1)))]) hl [3, 4, 1, 5, 0] rfl) (q_ck (q_ck (q_ce (by simp [cntB, c_1, c_2, c_3, c_4, c_11, nI_1, Nat.add_assoc]) (q_ck (q_ck (rfl)))))))
              · skip
                have c_11 : (tqB M V lim w i k) = true := b2i_n c_11
                refine lv_iconst (v := 1) hx hb dX1_told_115 (by decide) ?_
                refine lv_goto (tgt := 120) hx hb dX1_told_116 (by decide) ?_
                refine lv_iadd hx hb dX1_told_120 ?_
                refine lv_istore_n (lv' := [(2, .int ((nI (sumN (fun t => cntB (tqB M V lim w t) (J t)) i + cntB (tqB M V lim w i) k)) + 1)), (5, .int (b2i (tqB M V lim w i k))), (0, .ref h), (1, .int w), (3, .int (nI i)), (4, .int (nI k))]) hx hb dX1_told_121 rfl hl (by decide) rfl (fun ls hl => ?_)
                refine lv_iinc (v := (nI (k + 1))) (lv' := [(4, .int (nI (k + 1))), (2, .int ((nI (sumN (fun t => cntB (tqB M V lim w t) (J t)) i + cntB (tqB M V lim w i) k)) + 1)), (5, .int (b2i (tqB M V lim w i k))), (0, .ref h), (1, .int w), (3, .int (nI i))]) hx hb dX1_told_122 hl (k := 5) rfl (by exact nI_1 _) (by decide) rfl (fun ls hl => ?_)
                refine lv_goto (tgt := 57) hx hb dX1_told_125 (by decide) ?_
                exact ih_k (by exact trivial) ls (q_hl (lv_sub (l' := [(0, .ref h), (1, .int w), (2, .int ((nI (sumN (fun t => cntB (tqB M V lim w t) (J t)) i + cntB (tqB M V lim w i) k)) + 1)), (3, .int (nI i)), (4, .int (nI (k + 1)))]) hl [3, 4, 1, 5, 0] rfl) (q_ck (q_ck (q_ce (by simp [cntB, c_1, c_2, c_3, c_4, c_11, nI_1, Nat.add_assoc]) (q_ck (q_ck (rfl)))))))
            · intro hI_k ls hl
              have hl : lv_has ls 6 [(0, .ref h), (1, .int w), (2, .int (nI (sumN (fun t => cntB (tqB M V lim w t) (J t)) i + cntB (tqB M V lim w i) (J i)))), (3, .int (nI i)), (4, .int (nI (J i)))] := hl
              refine lv_iload hx hb dX1_told_57 (lv_at hl 4 rfl) ?_
              refine lv_aload_n hx hb dX1_told_59 rfl (lv_at hl 0 rfl) ?_
              refine va_get (D := (dC, dI)) (ci := 1) (v := .ref qj) (C := RX1) (T := TX1) (N := 8) hx hb hts hin hown hK hP 0 rfl rfl 1 (by decide) hf_13 (fun _ h9 => h9) rfl dX1_told_60 ?_
              refine lv_iload_n hx hb dX1_told_63 rfl (lv_at hl 3 rfl) ?_
              refine q_ald (n := 8) (k := i) hx hb hK hP 2 0 rfl rfl (by omega) (by decide) dX1_told_64 ?_
              refine q_top (y := nI (J i)) (by exact (hJ i (by omega)).1) ?_
              refine lv_icmp_ge (tgt := 128) hx hb dX1_told_65 (by decide) (fun c_12 => ?_) (fun c_12 => absurd (nI_le (Nat.le_refl (J i)) (by omega)) c_12)
              refine lv_iinc (v := (nI (i + 1))) (lv' := [(3, .int (nI (i + 1))), (0, .ref h), (1, .int w), (2, .int (nI (sumN (fun t => cntB (tqB M V lim w t) (J t)) i + cntB (tqB M V lim w i) (J i)))), (4, .int (nI (J i)))]) hx hb dX1_told_128 hl (k := 3) rfl (by exact nI_1 _) (by decide) rfl (fun ls hl => ?_)
              refine lv_goto (tgt := 46) hx hb dX1_told_131 (by decide) ?_
              exact ih_i (by exact trivial) ls (q_hl (lv_sub (l' := [(0, .ref h), (1, .int w), (2, .int (nI (sumN (fun t => cntB (tqB M V lim w t) (J t)) i + cntB (tqB M V lim w i) (J i)))), (3, .int (nI (i + 1)))]) hl [1, 2, 3, 0] rfl) (q_ck (q_ck (q_ce (by rfl) (q_ck (rfl))))))
          · intro hI_i ls hl
            have hl : lv_has ls 6 [(0, .ref h), (1, .int w), (2, .int (nI (sumN (fun t => cntB (tqB M V lim w t) (J t)) n))), (3, .int (nI n))] := hl
            refine lv_iload_n hx hb dX1_told_46 rfl (lv_at hl 3 rfl) ?_
            refine lv_aload_n hx hb dX1_told_47 rfl (lv_at hl 0 rfl) ?_
            refine va_get (D := (dC, dI)) (ci := 1) (v := .int (nI n)) (C := RX1) (T := TX1) (N := 8) hx hb hts hin hown hK hP 0 rfl rfl 5 (by decide) hf_32 (fun _ h9 => h9) rfl dX1_told_48 ?_
            refine lv_icmp_ge (tgt := 134) hx hb dX1_told_51 (by decide) (fun c_13 => ?_) (fun c_13 => absurd (nI_le (Nat.le_refl n) (by omega)) c_13)
            refine lv_iload_n hx hb dX1_told_134 rfl (lv_at hl 2 rfl) ?_
            exact q_ri hx hb hr hlk (by simp [a1Told, c_1, c_2, c_3, c_4]) dX1_told_135
        · skip
          have c_4 : (inR w 1 3) = false := b2i_0 c_4
          refine lv_sipush (v := (-1000)) hx hb dX1_told_38 (by decide) ?_
          exact q_ri hx hb hr hlk (by simp [a1Told, c_1, c_2, c_3, c_4]) dX1_told_41
      · skip
        refine lv_aload_n hx hb dX1_told_24 rfl (lv_at hl 0 rfl) ?_
        refine va_get (D := (dC, dI)) (ci := 1) (v := .int lim) (C := RX1) (T := TX1) (N := 8) hx hb hts hin hown hK hP 0 rfl rfl 7 (by decide) hf_29 (fun _ h9 => h9) rfl dX1_told_25 ?_
        exact q_ri hx hb hr hlk (by simp [a1Told, c_1, c_2, c_3]) dX1_told_28
    · skip
      refine lv_aload_n hx hb dX1_told_14 rfl (lv_at hl 0 rfl) ?_
      refine va_get (D := (dC, dI)) (ci := 1) (v := .int rec) (C := RX1) (T := TX1) (N := 8) hx hb hts hin hown hK hP 0 rfl rfl 6 (by decide) hf_25 (fun _ h9 => h9) rfl dX1_told_15 ?_
      exact q_ri hx hb hr hlk (by simp [a1Told, c_1, c_2]) dX1_told_18
  · skip
    refine lv_aload_n hx hb dX1_told_4 rfl (lv_at hl 0 rfl) ?_
    refine va_get (D := (dC, dI)) (ci := 1) (v := .int (nI n)) (C := RX1) (T := TX1) (N := 8) hx hb hts hin hown hK hP 0 rfl rfl 5 (by decide) hf_32 (fun _ h9 => h9) rfl dX1_told_5 ?_
    exact q_ri hx hb hr hlk (by simp [a1Told, c_1]) dX1_told_8
