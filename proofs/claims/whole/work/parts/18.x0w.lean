def pI (fr : Nat → Int32) (j : Nat) (v : Int32) (i : Nat) (u : Nat → Int32) : Prop := (∀ t, t < i → u (6 * j + t) = insR (mk fr j) v t) ∧ ∀ k, (k < 6 * j ∨ 6 * j + i ≤ k) → u k = fr k
theorem pI_0 (fr : Nat → Int32) (j : Nat) (v : Int32) : pI fr j v 0 fr := ⟨fun t h => absurd h (Nat.not_lt_zero t), fun _ _ => rfl⟩
theorem mv_keep {row : Nat → Int32} {v : Int32} {i : Nat} (h : mvR row v i ≤ row i) : mvR row v i = mvR row v (i + 1) := by
  rw [mvR.eq_2, if_neg (Int32.not_lt.mpr h)]
theorem mv_put {row : Nat → Int32} {v : Int32} {i : Nat} (h : ¬ mvR row v i ≤ row i) : row i = mvR row v (i + 1) := by
  rw [mvR.eq_2, if_pos (Int32.not_le.mp h)]
theorem pI_keep {fr u : Nat → Int32} {j i : Nat} {v : Int32} (h : pI fr j v i u) (q : mvR (mk fr j) v i ≤ mk fr j i) : pI fr j v (i + 1) u := by
  refine ⟨fun t ht => ?_, fun k hk => h.2 k (by omega)⟩
  rcases Nat.lt_or_ge t i with a | a
  · exact h.1 t a
  · have : t = i := by omega
    subst this
    rw [insR, if_neg (Int32.not_lt.mpr q)]
    exact h.2 _ (by omega)
theorem pI_put {fr u : Nat → Int32} {j i : Nat} {v : Int32} (h : pI fr j v i u) (q : ¬ mvR (mk fr j) v i ≤ mk fr j i) : pI fr j v (i + 1) (upd u (6 * j + i) (mvR (mk fr j) v i)) := by
  refine ⟨fun t ht => ?_, fun k hk => by rw [pk_un (by omega)]; exact h.2 k (by omega)⟩
  rcases Nat.lt_or_ge t i with a | a
  · rw [pk_un (by omega)]
    exact h.1 t a
  · have : t = i := by omega
    subst this
    rw [pk_us, insR, if_pos (Int32.not_le.mp q)]
def zI (fr : Nat → Int32) (j i : Nat) (u : Nat → Int32) : Prop := (∀ t, t < i → u (6 * j + t) = 0) ∧ ∀ k, (k < 6 * j ∨ 6 * j + i ≤ k) → u k = fr k
theorem zI_0 (fr : Nat → Int32) (j : Nat) : zI fr j 0 fr := ⟨fun t h => absurd h (Nat.not_lt_zero t), fun _ _ => rfl⟩
theorem zI_put {fr u : Nat → Int32} {j i : Nat} (h : zI fr j i u) : zI fr j (i + 1) (upd u (6 * j + i) 0) := by
  refine ⟨fun t ht => ?_, fun k hk => by rw [pk_un (by omega)]; exact h.2 k (by omega)⟩
  rcases Nat.lt_or_ge t i with a | a
  · rw [pk_un (by omega)]
    exact h.1 t a
  · have : t = i := by omega
    subst this
    rw [pk_us]
def rI (fm fw : Nat → Int32) (lim : Int32) (fr : Nat → Int32) (j i : Nat) (u : Nat → Int32) : Prop := (∀ t, t < 6 → u (6 * j + t) = rowU (lgl (mk fm) (mk fw) lim j) (mk fm j) i t) ∧ ∀ k, (k < 6 * j ∨ 6 * j + 6 ≤ k) → u k = fr k
def lo (fm fw : Nat → Int32) (lim : Int32) (fr : Nat → Int32) (j : Nat) (u : Nat → Int32) : Prop := rI fm fw lim fr j 6 u
theorem rI_0 {fm fw : Nat → Int32} {lim : Int32} {fr u : Nat → Int32} {j : Nat} (h : zI fr j 6 u) : rI fm fw lim fr j 0 u := ⟨fun t ht => h.1 t ht, h.2⟩
theorem rI_no {fm fw : Nat → Int32} {lim : Int32} {fr u : Nat → Int32} {j i : Nat} (h : rI fm fw lim fr j i u) (q : lgl (mk fm) (mk fw) lim j i = false) : rI fm fw lim fr j (i + 1) u := by
  refine ⟨fun t ht => ?_, h.2⟩
  simp only [rowU]
  rw [if_neg (by rw [q]; decide)]
  exact h.1 t ht
theorem mvR_congr {row row' : Nat → Int32} {v : Int32} {t : Nat} (h : ∀ u, u < t → row u = row' u) : mvR row v t = mvR row' v t := by
  induction t with
  | zero => rfl
  | succ t ih =>
    simp only [mvR]
    rw [ih (fun u hu => h u (by omega)), h t (by omega)]
theorem insR_congr {row row' : Nat → Int32} {v : Int32} {t : Nat} (h : ∀ u, u ≤ t → row u = row' u) : insR row v t = insR row' v t := by
  unfold insR
  rw [mvR_congr (fun u hu => h u (by omega)), h t (Nat.le_refl t)]
theorem rI_in {fm fw : Nat → Int32} {lim : Int32} {fr u u' : Nat → Int32} {j i : Nat} (h : rI fm fw lim fr j i u) (q : lgl (mk fm) (mk fw) lim j i = true) (p : pI u j (fm (6 * j + i)) 6 u') : rI fm fw lim fr j (i + 1) u' := by
  refine ⟨fun t ht => ?_, fun k hk => by rw [p.2 k hk]; exact h.2 k hk⟩
  simp only [rowU]
  rw [if_pos q, p.1 t ht]
  exact insR_congr (fun s hs => h.1 s (by omega))
def la (fm fw : Nat → Int32) (lim : Int32) (n : Nat) (u : Nat → Int32) : Prop := ∀ j, j < n → ∀ t, t < 6 → mk u j t = srt (mk fm) (mk fw) lim j t
theorem la_0 {fm fw : Nat → Int32} {lim : Int32} {u : Nat → Int32} : la fm fw lim 0 u := fun j h => absurd h (Nat.not_lt_zero j)
theorem la_in {fm fw : Nat → Int32} {lim : Int32} {i : Nat} {u u' : Nat → Int32} (h : la fm fw lim i u) (p : lo fm fw lim u i u') : la fm fw lim (i + 1) u' := by
  intro j hj t ht
  rcases Nat.lt_or_ge j i with a | a
  · rw [← h j a t ht]
    exact p.2 _ (by omega)
  · have : j = i := by omega
    subst this
    exact p.1 t ht
theorem lo_lx {fm fw : Nat → Int32} {lim : Int32} {fr u u' : Nat → Int32} {a b : Nat} (p : lo fm fw lim fr a u) (q : lo fm fw lim u b u') : lx6 (mk u' a) (mk u' b) = lx6 (srt (mk fm) (mk fw) lim a) (srt (mk fm) (mk fw) lim b) := by
  refine lx6_congr (fun t ht => ?_) (fun t ht => q.1 t ht)
  by_cases e : a = b
  · subst e
    exact q.1 t ht
  · rw [← show mk u a t = srt (mk fm) (mk fw) lim a t from p.1 t ht]
    exact q.2 _ (by omega)
theorem la_place {fm fw : Nat → Int32} {lim : Int32} {n j : Nat} {u : Nat → Int32} (h : la fm fw lim n u) (hj : j < n) : nI (cntB (fun o => lx6 (mk u o) (mk u j)) n) + 1 = nI (cntB (fun o => lx6 (srt (mk fm) (mk fw) lim o) (srt (mk fm) (mk fw) lim j)) n) + 1 := by
  rw [cntB_congr (fun o ho => lx6_congr (h o ho) (h j hj))]
theorem la_bef {fm fw : Nat → Int32} {lim : Int32} {n : Nat} {u : Nat → Int32} (h : la fm fw lim n u) {o j : Nat} (ho : o < n) (hj : j < n) : befR (mk u) o j = befR (srt (mk fm) (mk fw) lim) o j := by
  unfold befR
  rw [lx6_congr (h j hj) (h o ho), lx6_congr (h o ho) (h j hj)]
theorem fndI_congr {z k : Int32} {r r' : Nat → Int32} {n : Nat} (h : ∀ i, i < n → r i = r' i) : fndI z r k n = fndI z r' k n := by
  induction n with
  | zero => rfl
  | succ n ih =>
    simp only [fndI]
    rw [h n (by omega), ih (fun i hi => h i (by omega))]
theorem la_order {fm fw : Nat → Int32} {lim : Int32} {n : Nat} {u : Nat → Int32} {z k : Int32} (h : la fm fw lim n u) : fndI z (fun j => nI (cntB (fun o => befR (mk u) o j) n)) k n = fndI z (fun j => nI (cntB (fun o => befR (srt (mk fm) (mk fw) lim) o j) n)) k n :=
  fndI_congr (fun i hi => by rw [cntB_congr (fun o ho => la_bef h ho hi)])
def eB (fb : Nat → Int32) (n : Nat) (b : Int32) : Bool := if 8 ≤ nI n then false else if b < 1 then false else if 999 < b then false else !anyB (fun i => decide (fb i = b)) n
def kB (n : Int32) (J : Nat → Nat) (x g w : Int32) : Bool := jmp n x && (mrk g && (wnd w && decide (J x.toNatClampNeg < 6)))
def uB (n : Int32) (J : Nat → Nat) (x : Int32) : Bool := jmp n x && decide (0 < J x.toNatClampNeg)
theorem hdX0_putInRow : yX0_putInRow.cls = RX0 ∧ yX0_putInRow.cls ≠ "java/lang/invoke/MethodHandle" ∧ yX0_putInRow.cls ≠ "java/lang/invoke/VarHandle" ∧ (parseMethodDescriptor yX0_putInRow.desc).map (fun d => d.parameters.length) = some 2 := by decide +kernel
set_option maxHeartbeats 4000000 in
set_option maxRecDepth 100000 in
theorem mX0_putInRow (l : Launch) (dC : Nat → ClassId) (dI : Nat → Nat → Nat) (h qb qj qm qw qr : Nat) (cA : ClassId) (n : Nat) (rec lim : Int32) (fb fj fm fw fr : Nat → Int32) (sz : Nat) (j : Nat) (v : Int32) (hj : j < 8) : Met l yX0_putInRow wsX0_putInRow ({ frames := 1, cells := 0, slots := 0, locals := 21 }) (va_Pc [.ref h, .int (nI j), .int v] (qPw (dC, dI) vwCl [(cA, .int)] (wX h qb qj qm qw qr cA (nI n) rec lim fb fj fm fw fr) sz)) (va_Qv (fun (u : Nat → Int32) => pI fr j v 6 u) (fun (u : Nat → Int32) => qBw (dC, dI) vwCl [(cA, .int)] (wX h qb qj qm qw qr cA (nI n) rec lim fb fj fm fw fr) (wX h qb qj qm qw qr cA (nI n) rec lim fb fj fm fw u) sz) (va_A (wX h qb qj qm qw qr cA (nI n) rec lim fb fj fm fw fr) sz)) 0 0 (va_A (wX h qb qj qm qw qr cA (nI n) rec lim fb fj fm fw fr) sz) := by
  refine Met.ofW (cc := cX0_putInRow) (maxL := 6) (ret := none) (by decide) rfl ?_
  intro p e s m args below meth c s₁ B hml hv
  obtain ⟨rfl, hsz, hP, hK, hD0⟩ := hv
  have hx := B.exec
  have hb := B.bytes
  have hr := B.returns
  have hts := atoms_spec (ws := wsX0_putInRow) B.pre
  have hown : s.vm.findClass RX0 = some m.cls := findClass_of_methodNamed B.named
  have hlk := B.notSynchronized
  have hin : ∀ w ∈ wsX00, w ∈ wsX0_putInRow := fun w h => List.mem_cons_of_mem _ (List.mem_append_right _ h)
  have hf_32 := hts (.fieldLink RX0 32 "JumpBoard" "rows" "[I") (by decide +kernel)
  subst hsz
  have hD := hD0.self (sz := s.heap.size)
  have hA : ∀ q : Nat, s.heap.size ≤ q → va_A (wX h qb qj qm qw qr cA (nI n) rec lim fb fj fm fw fr) s.heap.size q := fun q h => Or.inr h
  have hS : va_S (va_A (wX h qb qj qm qw qr cA (nI n) rec lim fb fj fm fw fr) s.heap.size) s.heap s.heap [] := va_S.rf
  have hl := lv_entry ([.ref h, .int (nI j), .int v]) (n := 6) (Nat.le_of_ble_eq_true rfl)
  rw [lg_entry_eq]
  generalize (lg_sl ([.ref h, .int (nI j), .int v]) ++ List.replicate (6 - (lg_sl ([.ref h, .int (nI j), .int v])).length) Slot.unset).toArray = ls at hl ⊢
  have hl : lv_has ls 6 [(0, .ref h), (1, .int (nI j)), (2, .int v)] := hl
  refine lv_iload_n hx hb dX0_putInRow_0 rfl (lv_at hl 2 rfl) ?_
  refine lv_istore_n (lv' := [(3, .int v), (0, .ref h), (1, .int (nI j)), (2, .int v)]) hx hb dX0_putInRow_1 rfl hl (by decide) rfl (fun ls hl => ?_)
  refine lv_iconst (v := 0) hx hb dX0_putInRow_2 (by decide) ?_
  refine lv_istore (lv' := [(4, .int 0), (3, .int v), (0, .ref h), (1, .int (nI j)), (2, .int v)]) hx hb dX0_putInRow_3 hl (by decide) rfl (fun ls hl => ?_)
  refine q_lw (head := 5) (σ := Nat → Int32) (6) (fun i u => [(0, .ref h), (1, .int (nI j)), (2, .int v), (3, .int (mvR (mk fr j) v i)), (4, .int (nI i))]) (fun i u => pI fr j v i u) (fun u => wX h qb qj qm qw qr cA (nI n) rec lim fb fj fm fw u) (0) (fr) (by omega) (pI_0 fr j v) hP hD hS (q_hl (lv_sub (l' := [(0, .ref h), (1, .int (nI j)), (2, .int v), (3, .int v), (4, .int 0)]) hl [2, 3, 4, 1, 0] rfl) (q_ck (q_ck (q_ck (q_ce (by rfl) (q_ce (by rfl) (rfl))))))) ?_ ?_
  · intro i u hi_i hI_i ih_i H locs ls hP hD hS hl
    have hl : lv_has ls 6 [(0, .ref h), (1, .int (nI j)), (2, .int v), (3, .int (mvR (mk fr j) v i)), (4, .int (nI i))] := hl
    have hP : va_P (dC, dI) vwCl (wX h qb qj qm qw qr cA (nI n) rec lim fb fj fm fw u) H := hP
    have hD : va_D (va_A (wX h qb qj qm qw qr cA (nI n) rec lim fb fj fm fw fr) s.heap.size) (wX h qb qj qm qw qr cA (nI n) rec lim fb fj fm fw u) := hD
    refine lv_iload hx hb dX0_putInRow_5 (lv_at hl 4 rfl) ?_
    refine lv_bipush (v := 6) hx hb dX0_putInRow_7 (by decide) ?_
    refine lv_icmp_ge (tgt := 52) hx hb dX0_putInRow_9 (by decide) (fun c_1 => absurd c_1 (nI_ge (b := 6) hi_i (by decide))) (fun c_1 => ?_)
    refine lv_aload_n hx hb dX0_putInRow_12 rfl (lv_at hl 0 rfl) ?_
    refine va_get (D := (dC, dI)) (ci := 0) (v := .ref qr) (C := RX0) (T := TX0) (N := 8) hx hb hts hin hown hK hP 0 rfl rfl 7 (by decide) hf_32 (fun _ h9 => h9) rfl dX0_putInRow_13 ?_
    refine lv_iload_n hx hb dX0_putInRow_16 rfl (lv_at hl 1 rfl) ?_
    refine lv_iload hx hb dX0_putInRow_17 (lv_at hl 4 rfl) ?_
    refine q_cs [.int (nI j), .int (nI i)] (rest := [.ref qr]) ⟨hx, hb, hml, hown, hts⟩ (mX0_at l j i) gX0_putInRow_X0_at rfl rfl rfl hdX0_at ⟨Nat.le_of_ble_eq_true rfl, Nat.le_of_ble_eq_true rfl⟩ rfl hl.1 rfl (Nat.le_of_ble_eq_true rfl) dX0_putInRow_19 ⟨Nat.zero_le _, Nat.zero_le _⟩ ?_
    refine q_ald (n := 48) (k := (6 * j + i)) hx hb hK hP 5 0 rfl rfl (by omega) (by decide) dX0_putInRow_22 ?_
    refine q_top (y := mk fr j i) (by exact hI_i.2 _ (by omega)) ?_
    refine lv_istore (lv' := [(5, .int (mk fr j i)), (0, .ref h), (1, .int (nI j)), (2, .int v), (3, .int (mvR (mk fr j) v i)), (4, .int (nI i))]) hx hb dX0_putInRow_23 hl (by decide) rfl (fun ls hl => ?_)
    refine lv_iload_n hx hb dX0_putInRow_25 rfl (lv_at hl 4 rfl) ?_
    refine lv_iload hx hb dX0_putInRow_26 (lv_at hl 0 rfl) ?_
    refine lv_icmp_le (tgt := 46) hx hb dX0_putInRow_28 (by decide) (fun c_2 => ?_) (fun c_2 => ?_)
    · skip
      refine lv_iinc (v := (nI (i + 1))) (lv' := [(4, .int (nI (i + 1))), (5, .int (mk fr j i)), (0, .ref h), (1, .int (nI j)), (2, .int v), (3, .int (mvR (mk fr j) v i))]) hx hb dX0_putInRow_46 hl (k := 5) rfl (by exact nI_1 _) (by decide) rfl (fun ls hl => ?_)
      refine lv_goto (tgt := 5) hx hb dX0_putInRow_49 (by decide) ?_
      exact ih_i (u) H locs ls (by exact pI_keep hI_i c_2) hP hD hS (q_hl (lv_sub (l' := [(0, .ref h), (1, .int (nI j)), (2, .int v), (3, .int (mvR (mk fr j) v i)), (4, .int (nI (i + 1)))]) hl [2, 3, 4, 5, 0] rfl) (q_ck (q_ck (q_ck (q_ce (by exact mv_keep c_2) (q_ck (rfl)))))))
    · skip
      refine lv_aload_n hx hb dX0_putInRow_31 rfl (lv_at hl 1 rfl) ?_
      refine va_get (D := (dC, dI)) (ci := 0) (v := .ref qr) (C := RX0) (T := TX0) (N := 8) hx hb hts hin hown hK hP 0 rfl rfl 7 (by decide) hf_32 (fun _ h9 => h9) rfl dX0_putInRow_32 ?_
      refine lv_iload_n hx hb dX0_putInRow_35 rfl (lv_at hl 2 rfl) ?_
      refine lv_iload hx hb dX0_putInRow_36 (lv_at hl 5 rfl) ?_
      refine q_cs [.int (nI j), .int (nI i)] (rest := [.ref qr]) ⟨hx, hb, hml, hown, hts⟩ (mX0_at l j i) gX0_putInRow_X0_at rfl rfl rfl hdX0_at ⟨Nat.le_of_ble_eq_true rfl, Nat.le_of_ble_eq_true rfl⟩ rfl hl.1 rfl (Nat.le_of_ble_eq_true rfl) dX0_putInRow_38 ⟨Nat.zero_le _, Nat.zero_le _⟩ ?_
      refine lv_iload_n hx hb dX0_putInRow_41 rfl (lv_at hl 4 rfl) ?_
      refine q_ast (n := 48) (k := (6 * j + i)) hx hb hK hP hD hS 5 0 rfl rfl (by omega) (by decide) dX0_putInRow_42 (fun H locs hP hD hS => ?_)
      have hP : va_P (dC, dI) vwCl (wX h qb qj qm qw qr cA (nI n) rec lim fb fj fm fw (upd u (6 * j + i) (mvR (mk fr j) v i))) H := hP
      have hD : va_D (va_A (wX h qb qj qm qw qr cA (nI n) rec lim fb fj fm fw fr) s.heap.size) (wX h qb qj qm qw qr cA (nI n) rec lim fb fj fm fw (upd u (6 * j + i) (mvR (mk fr j) v i))) := hD
      refine lv_iload hx hb dX0_putInRow_43 (lv_at hl 0 rfl) ?_
      refine lv_istore_n (lv' := [(3, .int (mk fr j i)), (5, .int (mk fr j i)), (0, .ref h), (1, .int (nI j)), (2, .int v), (4, .int (nI i))]) hx hb dX0_putInRow_45 rfl hl (by decide) rfl (fun ls hl => ?_)
      refine lv_iinc (v := (nI (i + 1))) (lv' := [(4, .int (nI (i + 1))), (3, .int (mk fr j i)), (5, .int (mk fr j i)), (0, .ref h), (1, .int (nI j)), (2, .int v)]) hx hb dX0_putInRow_46 hl (k := 5) rfl (by exact nI_1 _) (by decide) rfl (fun ls hl => ?_)
      refine lv_goto (tgt := 5) hx hb dX0_putInRow_49 (by decide) ?_
      exact ih_i ((upd u (6 * j + i) (mvR (mk fr j) v i))) H locs ls (by exact pI_put hI_i c_2) hP hD hS (q_hl (lv_sub (l' := [(0, .ref h), (1, .int (nI j)), (2, .int v), (3, .int (mk fr j i)), (4, .int (nI (i + 1)))]) hl [3, 4, 5, 1, 0] rfl) (q_ck (q_ck (q_ck (q_ce (by exact mv_put c_2) (q_ck (rfl)))))))
  · intro u H locs ls hI_i hP hD hS hl
    have hl : lv_has ls 6 [(0, .ref h), (1, .int (nI j)), (2, .int v), (3, .int (mvR (mk fr j) v 6)), (4, .int (nI 6))] := hl
    have hP : va_P (dC, dI) vwCl (wX h qb qj qm qw qr cA (nI n) rec lim fb fj fm fw u) H := hP
    have hD : va_D (va_A (wX h qb qj qm qw qr cA (nI n) rec lim fb fj fm fw fr) s.heap.size) (wX h qb qj qm qw qr cA (nI n) rec lim fb fj fm fw u) := hD
    refine lv_iload hx hb dX0_putInRow_5 (lv_at hl 4 rfl) ?_
    refine lv_bipush (v := 6) hx hb dX0_putInRow_7 (by decide) ?_
    refine lv_icmp_ge (tgt := 52) hx hb dX0_putInRow_9 (by decide) (fun c_3 => ?_) (fun c_3 => absurd (by decide) c_3)
    exact q_wv (w1 := (fun (u : Nat → Int32) => wX h qb qj qm qw qr cA (nI n) rec lim fb fj fm fw u)) u hx hb hr hlk hK hP hD hS (by exact hI_i) dX0_putInRow_52

theorem hdX0_layOut : yX0_layOut.cls = RX0 ∧ yX0_layOut.cls ≠ "java/lang/invoke/MethodHandle" ∧ yX0_layOut.cls ≠ "java/lang/invoke/VarHandle" ∧ (parseMethodDescriptor yX0_layOut.desc).map (fun d => d.parameters.length) = some 1 := by decide +kernel
set_option maxHeartbeats 4000000 in
set_option maxRecDepth 100000 in
theorem mX0_layOut (l : Launch) (dC : Nat → ClassId) (dI : Nat → Nat → Nat) (h qb qj qm qw qr : Nat) (cA : ClassId) (n : Nat) (rec lim : Int32) (fb fj fm fw fr : Nat → Int32) (sz : Nat) (j : Nat) (hj : j < 8) : Met l yX0_layOut wsX0_layOut ({ frames := 3, cells := 0, slots := 0, locals := 67 }) (va_Pc [.ref h, .int (nI j)] (qPw (dC, dI) vwCl [(cA, .int)] (wX h qb qj qm qw qr cA (nI n) rec lim fb fj fm fw fr) sz)) (va_Qv (fun (u : Nat → Int32) => lo fm fw lim fr j u) (fun (u : Nat → Int32) => qBw (dC, dI) vwCl [(cA, .int)] (wX h qb qj qm qw qr cA (nI n) rec lim fb fj fm fw fr) (wX h qb qj qm qw qr cA (nI n) rec lim fb fj fm fw u) sz) (va_A (wX h qb qj qm qw qr cA (nI n) rec lim fb fj fm fw fr) sz)) 0 0 (va_A (wX h qb qj qm qw qr cA (nI n) rec lim fb fj fm fw fr) sz) := by
  refine Met.ofW (cc := cX0_layOut) (maxL := 3) (ret := none) (by decide) rfl ?_
  intro p e s m args below meth c s₁ B hml hv
  obtain ⟨rfl, hsz, hP, hK, hD0⟩ := hv
  have hx := B.exec
  have hb := B.bytes
  have hr := B.returns
  have hts := atoms_spec (ws := wsX0_layOut) B.pre
  have hown : s.vm.findClass RX0 = some m.cls := findClass_of_methodNamed B.named
  have hlk := B.notSynchronized
  have hin : ∀ w ∈ wsX00, w ∈ wsX0_layOut := fun w h => List.mem_cons_of_mem _ (List.mem_append_right _ h)
  have hf_26 := hts (.fieldLink RX0 26 "JumpBoard" "marks" "[I") (by decide +kernel)
  have hf_32 := hts (.fieldLink RX0 32 "JumpBoard" "rows" "[I") (by decide +kernel)
  subst hsz
  have hD := hD0.self (sz := s.heap.size)
  have hA : ∀ q : Nat, s.heap.size ≤ q → va_A (wX h qb qj qm qw qr cA (nI n) rec lim fb fj fm fw fr) s.heap.size q := fun q h => Or.inr h
  have hS : va_S (va_A (wX h qb qj qm qw qr cA (nI n) rec lim fb fj fm fw fr) s.heap.size) s.heap s.heap [] := va_S.rf
  have hl := lv_entry ([.ref h, .int (nI j)]) (n := 3) (Nat.le_of_ble_eq_true rfl)
  rw [lg_entry_eq]
  generalize (lg_sl ([.ref h, .int (nI j)]) ++ List.replicate (3 - (lg_sl ([.ref h, .int (nI j)])).length) Slot.unset).toArray = ls at hl ⊢
  have hl : lv_has ls 3 [(0, .ref h), (1, .int (nI j))] := hl
  refine lv_iconst (v := 0) hx hb dX0_layOut_0 (by decide) ?_
  refine lv_istore_n (lv' := [(2, .int 0), (0, .ref h), (1, .int (nI j))]) hx hb dX0_layOut_1 rfl hl (by decide) rfl (fun ls hl => ?_)
  refine q_lw (head := 2) (σ := Nat → Int32) (6) (fun i u => [(0, .ref h), (1, .int (nI j)), (2, .int (nI i))]) (fun i u => zI fr j i u) (fun u => wX h qb qj qm qw qr cA (nI n) rec lim fb fj fm fw u) (0) (fr) (by omega) (zI_0 fr j) hP hD hS (q_hl (lv_sub (l' := [(0, .ref h), (1, .int (nI j)), (2, .int 0)]) hl [1, 2, 0] rfl) (q_ck (q_ck (q_ce (by rfl) (rfl))))) ?_ ?_
  · intro i u hi_i hI_i ih_i H locs ls hP hD hS hl
    have hl : lv_has ls 3 [(0, .ref h), (1, .int (nI j)), (2, .int (nI i))] := hl
    have hP : va_P (dC, dI) vwCl (wX h qb qj qm qw qr cA (nI n) rec lim fb fj fm fw u) H := hP
    have hD : va_D (va_A (wX h qb qj qm qw qr cA (nI n) rec lim fb fj fm fw fr) s.heap.size) (wX h qb qj qm qw qr cA (nI n) rec lim fb fj fm fw u) := hD
    refine lv_iload_n hx hb dX0_layOut_2 rfl (lv_at hl 2 rfl) ?_
    refine lv_bipush (v := 6) hx hb dX0_layOut_3 (by decide) ?_
    refine lv_icmp_ge (tgt := 25) hx hb dX0_layOut_5 (by decide) (fun c_1 => absurd c_1 (nI_ge (b := 6) hi_i (by decide))) (fun c_1 => ?_)
    refine lv_aload_n hx hb dX0_layOut_8 rfl (lv_at hl 0 rfl) ?_
    refine va_get (D := (dC, dI)) (ci := 0) (v := .ref qr) (C := RX0) (T := TX0) (N := 8) hx hb hts hin hown hK hP 0 rfl rfl 7 (by decide) hf_32 (fun _ h9 => h9) rfl dX0_layOut_9 ?_
    refine lv_iload_n hx hb dX0_layOut_12 rfl (lv_at hl 1 rfl) ?_
    refine lv_iload_n hx hb dX0_layOut_13 rfl (lv_at hl 2 rfl) ?_
    refine q_cs [.int (nI j), .int (nI i)] (rest := [.ref qr]) ⟨hx, hb, hml, hown, hts⟩ (mX0_at l j i) gX0_layOut_X0_at rfl rfl rfl hdX0_at ⟨Nat.le_of_ble_eq_true rfl, Nat.le_of_ble_eq_true rfl⟩ rfl hl.1 rfl (Nat.le_of_ble_eq_true rfl) dX0_layOut_14 ⟨Nat.zero_le _, Nat.zero_le _⟩ ?_
    refine lv_iconst (v := 0) hx hb dX0_layOut_17 (by decide) ?_
    refine q_ast (n := 48) (k := (6 * j + i)) hx hb hK hP hD hS 5 0 rfl rfl (by omega) (by decide) dX0_layOut_18 (fun H locs hP hD hS => ?_)
    have hP : va_P (dC, dI) vwCl (wX h qb qj qm qw qr cA (nI n) rec lim fb fj fm fw (upd u (6 * j + i) 0)) H := hP
    have hD : va_D (va_A (wX h qb qj qm qw qr cA (nI n) rec lim fb fj fm fw fr) s.heap.size) (wX h qb qj qm qw qr cA (nI n) rec lim fb fj fm fw (upd u (6 * j + i) 0)) := hD
    refine lv_iinc (v := (nI (i + 1))) (lv' := [(2, .int (nI (i + 1))), (0, .ref h), (1, .int (nI j))]) hx hb dX0_layOut_19 hl (k := 2) rfl (by exact nI_1 _) (by decide) rfl (fun ls hl => ?_)
    refine lv_goto (tgt := 2) hx hb dX0_layOut_22 (by decide) ?_
    exact ih_i ((upd u (6 * j + i) 0)) H locs ls (by exact zI_put hI_i) hP hD hS (lv_sub (l' := [(0, .ref h), (1, .int (nI j)), (2, .int (nI (i + 1)))]) hl [1, 2, 0] rfl)
  · intro u H locs ls hI_i hP hD hS hl
    have hl : lv_has ls 3 [(0, .ref h), (1, .int (nI j)), (2, .int (nI 6))] := hl
    have hP : va_P (dC, dI) vwCl (wX h qb qj qm qw qr cA (nI n) rec lim fb fj fm fw u) H := hP
    have hD : va_D (va_A (wX h qb qj qm qw qr cA (nI n) rec lim fb fj fm fw fr) s.heap.size) (wX h qb qj qm qw qr cA (nI n) rec lim fb fj fm fw u) := hD
    refine lv_iload_n hx hb dX0_layOut_2 rfl (lv_at hl 2 rfl) ?_
    refine lv_bipush (v := 6) hx hb dX0_layOut_3 (by decide) ?_
    refine lv_icmp_ge (tgt := 25) hx hb dX0_layOut_5 (by decide) (fun c_2 => ?_) (fun c_2 => absurd (by decide) c_2)
    refine lv_iconst (v := 0) hx hb dX0_layOut_25 (by decide) ?_
    refine lv_istore_n (lv' := [(2, .int 0), (0, .ref h), (1, .int (nI j))]) hx hb dX0_layOut_26 rfl hl (by decide) rfl (fun ls hl => ?_)
    refine q_lw (head := 27) (σ := Nat → Int32) (6) (fun k u2 => [(0, .ref h), (1, .int (nI j)), (2, .int (nI k))]) (fun k u2 => rI fm fw lim fr j k u2) (fun u2 => wX h qb qj qm qw qr cA (nI n) rec lim fb fj fm fw u2) (0) (u) (by omega) (rI_0 hI_i) hP hD hS (q_hl (lv_sub (l' := [(0, .ref h), (1, .int (nI j)), (2, .int 0)]) hl [1, 2, 0] rfl) (q_ck (q_ck (q_ce (by rfl) (rfl))))) ?_ ?_
    · intro k u2 hi_k hI_k ih_k H locs ls hP hD hS hl
      have hl : lv_has ls 3 [(0, .ref h), (1, .int (nI j)), (2, .int (nI k))] := hl
      have hP : va_P (dC, dI) vwCl (wX h qb qj qm qw qr cA (nI n) rec lim fb fj fm fw u2) H := hP
      have hD : va_D (va_A (wX h qb qj qm qw qr cA (nI n) rec lim fb fj fm fw fr) s.heap.size) (wX h qb qj qm qw qr cA (nI n) rec lim fb fj fm fw u2) := hD
      refine lv_iload_n hx hb dX0_layOut_27 rfl (lv_at hl 2 rfl) ?_
      refine lv_bipush (v := 6) hx hb dX0_layOut_28 (by decide) ?_
      refine lv_icmp_ge (tgt := 63) hx hb dX0_layOut_30 (by decide) (fun c_3 => absurd c_3 (nI_ge (b := 6) hi_k (by decide))) (fun c_3 => ?_)
      refine lv_aload_n hx hb dX0_layOut_33 rfl (lv_at hl 0 rfl) ?_
      refine lv_iload_n hx hb dX0_layOut_34 rfl (lv_at hl 1 rfl) ?_
      refine lv_iload_n hx hb dX0_layOut_35 rfl (lv_at hl 2 rfl) ?_
      refine q_cv [.int (nI j), .int (nI k)] (rest := []) ⟨hx, hb, hml, hown, hts⟩ (mX0_isLegal l dC dI h qb qj qm qw qr cA n rec lim fb fj fm fw u2 j k (by omega) (by omega)) gX0_layOut_X0_isLegal rfl rfl rfl hdX0_isLegal ⟨Nat.le_of_ble_eq_true rfl, Nat.le_of_ble_eq_true rfl⟩ rfl hK hP rfl rfl hl.1 rfl (Nat.le_of_ble_eq_true rfl) dX0_layOut_36 ⟨Nat.zero_le _, Nat.zero_le _⟩ ?_
      refine lv_if_eq (tgt := 57) hx hb dX0_layOut_39 (by decide) (fun c_4 => ?_) (fun c_4 => ?_)
      · skip
        have c_4 : (lgl (mk fm) (mk fw) lim j k) = false := b2i_0 c_4
        refine lv_iinc (v := (nI (k + 1))) (lv' := [(2, .int (nI (k + 1))), (0, .ref h), (1, .int (nI j))]) hx hb dX0_layOut_57 hl (k := 2) rfl (by exact nI_1 _) (by decide) rfl (fun ls hl => ?_)
        refine lv_goto (tgt := 27) hx hb dX0_layOut_60 (by decide) ?_
        exact ih_k (u2) H locs ls (by exact rI_no hI_k c_4) hP hD hS (lv_sub (l' := [(0, .ref h), (1, .int (nI j)), (2, .int (nI (k + 1)))]) hl [1, 2, 0] rfl)
      · skip
        have c_4 : (lgl (mk fm) (mk fw) lim j k) = true := b2i_n c_4
        refine lv_aload_n hx hb dX0_layOut_42 rfl (lv_at hl 0 rfl) ?_
        refine lv_iload_n hx hb dX0_layOut_43 rfl (lv_at hl 1 rfl) ?_
        refine lv_aload_n hx hb dX0_layOut_44 rfl (lv_at hl 0 rfl) ?_
        refine va_get (D := (dC, dI)) (ci := 0) (v := .ref qm) (C := RX0) (T := TX0) (N := 8) hx hb hts hin hown hK hP 0 rfl rfl 5 (by decide) hf_26 (fun _ h9 => h9) rfl dX0_layOut_45 ?_
        refine lv_iload_n hx hb dX0_layOut_48 rfl (lv_at hl 1 rfl) ?_
        refine lv_iload_n hx hb dX0_layOut_49 rfl (lv_at hl 2 rfl) ?_
        refine q_cs [.int (nI j), .int (nI k)] (rest := [.ref qm, .int (nI j), .ref h]) ⟨hx, hb, hml, hown, hts⟩ (mX0_at l j k) gX0_layOut_X0_at rfl rfl rfl hdX0_at ⟨Nat.le_of_ble_eq_true rfl, Nat.le_of_ble_eq_true rfl⟩ rfl hl.1 rfl (Nat.le_of_ble_eq_true rfl) dX0_layOut_50 ⟨Nat.zero_le _, Nat.zero_le _⟩ ?_
        refine q_ald (n := 48) (k := (6 * j + k)) hx hb hK hP 3 0 rfl rfl (by omega) (by decide) dX0_layOut_53 ?_
        refine q_cwv [.int (nI j), .int (fm (6 * j + k))] (rest := []) ⟨hx, hb, hml, hown, hts⟩ (mX0_putInRow l dC dI h qb qj qm qw qr cA n rec lim fb fj fm fw u2 _ j (fm (6 * j + k)) (by omega)) gX0_layOut_X0_putInRow rfl rfl rfl hdX0_putInRow ⟨Nat.le_of_ble_eq_true rfl, Nat.le_of_ble_eq_true rfl⟩ rfl hK hP hD hS hA rfl rfl hl.1 rfl (Nat.le_of_ble_eq_true rfl) dX0_layOut_54 ⟨Nat.zero_le _, Nat.zero_le _⟩ (fun u_5 H locs hu_5 hP hD hS => ?_)
        have hP : va_P (dC, dI) vwCl (wX h qb qj qm qw qr cA (nI n) rec lim fb fj fm fw u_5) H := hP
        have hD : va_D (va_A (wX h qb qj qm qw qr cA (nI n) rec lim fb fj fm fw fr) s.heap.size) (wX h qb qj qm qw qr cA (nI n) rec lim fb fj fm fw u_5) := hD
        refine lv_iinc (v := (nI (k + 1))) (lv' := [(2, .int (nI (k + 1))), (0, .ref h), (1, .int (nI j))]) hx hb dX0_layOut_57 hl (k := 2) rfl (by exact nI_1 _) (by decide) rfl (fun ls hl => ?_)
        refine lv_goto (tgt := 27) hx hb dX0_layOut_60 (by decide) ?_
        exact ih_k (u_5) H locs ls (by exact rI_in hI_k c_4 hu_5) hP hD hS (lv_sub (l' := [(0, .ref h), (1, .int (nI j)), (2, .int (nI (k + 1)))]) hl [1, 2, 0] rfl)
    · intro u2 H locs ls hI_k hP hD hS hl
      have hl : lv_has ls 3 [(0, .ref h), (1, .int (nI j)), (2, .int (nI 6))] := hl
      have hP : va_P (dC, dI) vwCl (wX h qb qj qm qw qr cA (nI n) rec lim fb fj fm fw u2) H := hP
      have hD : va_D (va_A (wX h qb qj qm qw qr cA (nI n) rec lim fb fj fm fw fr) s.heap.size) (wX h qb qj qm qw qr cA (nI n) rec lim fb fj fm fw u2) := hD
      refine lv_iload_n hx hb dX0_layOut_27 rfl (lv_at hl 2 rfl) ?_
      refine lv_bipush (v := 6) hx hb dX0_layOut_28 (by decide) ?_
      refine lv_icmp_ge (tgt := 63) hx hb dX0_layOut_30 (by decide) (fun c_6 => ?_) (fun c_6 => absurd (by decide) c_6)
      exact q_wv (w1 := (fun (u : Nat → Int32) => wX h qb qj qm qw qr cA (nI n) rec lim fb fj fm fw u)) u2 hx hb hr hlk hK hP hD hS (by exact hI_k) dX0_layOut_63

theorem hdX0_layOutAll : yX0_layOutAll.cls = RX0 ∧ yX0_layOutAll.cls ≠ "java/lang/invoke/MethodHandle" ∧ yX0_layOutAll.cls ≠ "java/lang/invoke/VarHandle" ∧ (parseMethodDescriptor yX0_layOutAll.desc).map (fun d => d.parameters.length) = some 0 := by decide +kernel
set_option maxHeartbeats 4000000 in
set_option maxRecDepth 100000 in
theorem mX0_layOutAll (l : Launch) (dC : Nat → ClassId) (dI : Nat → Nat → Nat) (h qb qj qm qw qr : Nat) (cA : ClassId) (n : Nat) (rec lim : Int32) (fb fj fm fw fr : Nat → Int32) (sz : Nat) (hn : n ≤ 8) : Met l yX0_layOutAll wsX0_layOutAll ({ frames := 4, cells := 0, slots := 0, locals := 89 }) (va_Pc [.ref h] (qPw (dC, dI) vwCl [(cA, .int)] (wX h qb qj qm qw qr cA (nI n) rec lim fb fj fm fw fr) sz)) (va_Qv (fun (u : Nat → Int32) => la fm fw lim n u) (fun (u : Nat → Int32) => qBw (dC, dI) vwCl [(cA, .int)] (wX h qb qj qm qw qr cA (nI n) rec lim fb fj fm fw fr) (wX h qb qj qm qw qr cA (nI n) rec lim fb fj fm fw u) sz) (va_A (wX h qb qj qm qw qr cA (nI n) rec lim fb fj fm fw fr) sz)) 0 0 (va_A (wX h qb qj qm qw qr cA (nI n) rec lim fb fj fm fw fr) sz) := by
  refine Met.ofW (cc := cX0_layOutAll) (maxL := 2) (ret := none) (by decide) rfl ?_
  intro p e s m args below meth c s₁ B hml hv
  obtain ⟨rfl, hsz, hP, hK, hD0⟩ := hv
  have hx := B.exec
  have hb := B.bytes
  have hr := B.returns
  have hts := atoms_spec (ws := wsX0_layOutAll) B.pre
  have hown : s.vm.findClass RX0 = some m.cls := findClass_of_methodNamed B.named
  have hlk := B.notSynchronized
  have hin : ∀ w ∈ wsX00, w ∈ wsX0_layOutAll := fun w h => List.mem_cons_of_mem _ (List.mem_append_right _ h)
  have hf_7 := hts (.fieldLink RX0 7 "JumpBoard" "jumpers" "I") (by decide +kernel)
  subst hsz
  have hD := hD0.self (sz := s.heap.size)
  have hA : ∀ q : Nat, s.heap.size ≤ q → va_A (wX h qb qj qm qw qr cA (nI n) rec lim fb fj fm fw fr) s.heap.size q := fun q h => Or.inr h
  have hS : va_S (va_A (wX h qb qj qm qw qr cA (nI n) rec lim fb fj fm fw fr) s.heap.size) s.heap s.heap [] := va_S.rf
  have hl := lv_entry ([.ref h]) (n := 2) (Nat.le_of_ble_eq_true rfl)
  rw [lg_entry_eq]
  generalize (lg_sl ([.ref h]) ++ List.replicate (2 - (lg_sl ([.ref h])).length) Slot.unset).toArray = ls at hl ⊢
  have hl : lv_has ls 2 [(0, .ref h)] := hl
  refine lv_iconst (v := 0) hx hb dX0_layOutAll_0 (by decide) ?_
  refine lv_istore_n (lv' := [(1, .int 0), (0, .ref h)]) hx hb dX0_layOutAll_1 rfl hl (by decide) rfl (fun ls hl => ?_)
  refine q_lw (head := 2) (σ := Nat → Int32) (n) (fun i u => [(0, .ref h), (1, .int (nI i))]) (fun i u => la fm fw lim i u) (fun u => wX h qb qj qm qw qr cA (nI n) rec lim fb fj fm fw u) (0) (fr) (by omega) (la_0) hP hD hS (q_hl (lv_sub (l' := [(0, .ref h), (1, .int 0)]) hl [1, 0] rfl) (q_ck (q_ce (by rfl) (rfl)))) ?_ ?_
  · intro i u hi_i hI_i ih_i H locs ls hP hD hS hl
    have hl : lv_has ls 2 [(0, .ref h), (1, .int (nI i))] := hl
    have hP : va_P (dC, dI) vwCl (wX h qb qj qm qw qr cA (nI n) rec lim fb fj fm fw u) H := hP
    have hD : va_D (va_A (wX h qb qj qm qw qr cA (nI n) rec lim fb fj fm fw fr) s.heap.size) (wX h qb qj qm qw qr cA (nI n) rec lim fb fj fm fw u) := hD
    refine lv_iload_n hx hb dX0_layOutAll_2 rfl (lv_at hl 1 rfl) ?_
    refine lv_aload_n hx hb dX0_layOutAll_3 rfl (lv_at hl 0 rfl) ?_
    refine va_get (D := (dC, dI)) (ci := 0) (v := .int (nI n)) (C := RX0) (T := TX0) (N := 8) hx hb hts hin hown hK hP 0 rfl rfl 0 (by decide) hf_7 (fun _ h9 => h9) rfl dX0_layOutAll_4 ?_
    refine lv_icmp_ge (tgt := 21) hx hb dX0_layOutAll_7 (by decide) (fun c_1 => absurd c_1 (nI_ge hi_i (by omega))) (fun c_1 => ?_)
    refine lv_aload_n hx hb dX0_layOutAll_10 rfl (lv_at hl 0 rfl) ?_
    refine lv_iload_n hx hb dX0_layOutAll_11 rfl (lv_at hl 1 rfl) ?_
    refine q_cwv [.int (nI i)] (rest := []) ⟨hx, hb, hml, hown, hts⟩ (mX0_layOut l dC dI h qb qj qm qw qr cA n rec lim fb fj fm fw u _ i (by omega)) gX0_layOutAll_X0_layOut rfl rfl rfl hdX0_layOut ⟨Nat.le_of_ble_eq_true rfl, Nat.le_of_ble_eq_true rfl⟩ rfl hK hP hD hS hA rfl rfl hl.1 rfl (Nat.le_of_ble_eq_true rfl) dX0_layOutAll_12 ⟨Nat.zero_le _, Nat.zero_le _⟩ (fun u_2 H locs hu_2 hP hD hS => ?_)
    have hP : va_P (dC, dI) vwCl (wX h qb qj qm qw qr cA (nI n) rec lim fb fj fm fw u_2) H := hP
    have hD : va_D (va_A (wX h qb qj qm qw qr cA (nI n) rec lim fb fj fm fw fr) s.heap.size) (wX h qb qj qm qw qr cA (nI n) rec lim fb fj fm fw u_2) := hD
    refine lv_iinc (v := (nI (i + 1))) (lv' := [(1, .int (nI (i + 1))), (0, .ref h)]) hx hb dX0_layOutAll_15 hl (k := 1) rfl (by exact nI_1 _) (by decide) rfl (fun ls hl => ?_)
    refine lv_goto (tgt := 2) hx hb dX0_layOutAll_18 (by decide) ?_
    exact ih_i (u_2) H locs ls (by exact la_in hI_i hu_2) hP hD hS (lv_sub (l' := [(0, .ref h), (1, .int (nI (i + 1)))]) hl [1, 0] rfl)
  · intro u H locs ls hI_i hP hD hS hl
    have hl : lv_has ls 2 [(0, .ref h), (1, .int (nI n))] := hl
    have hP : va_P (dC, dI) vwCl (wX h qb qj qm qw qr cA (nI n) rec lim fb fj fm fw u) H := hP
    have hD : va_D (va_A (wX h qb qj qm qw qr cA (nI n) rec lim fb fj fm fw fr) s.heap.size) (wX h qb qj qm qw qr cA (nI n) rec lim fb fj fm fw u) := hD
    refine lv_iload_n hx hb dX0_layOutAll_2 rfl (lv_at hl 1 rfl) ?_
    refine lv_aload_n hx hb dX0_layOutAll_3 rfl (lv_at hl 0 rfl) ?_
    refine va_get (D := (dC, dI)) (ci := 0) (v := .int (nI n)) (C := RX0) (T := TX0) (N := 8) hx hb hts hin hown hK hP 0 rfl rfl 0 (by decide) hf_7 (fun _ h9 => h9) rfl dX0_layOutAll_4 ?_
    refine lv_icmp_ge (tgt := 21) hx hb dX0_layOutAll_7 (by decide) (fun c_3 => ?_) (fun c_3 => absurd (nI_le (Nat.le_refl n) (by omega)) c_3)
    exact q_wv (w1 := (fun (u : Nat → Int32) => wX h qb qj qm qw qr cA (nI n) rec lim fb fj fm fw u)) u hx hb hr hlk hK hP hD hS (by exact hI_i) dX0_layOutAll_21

theorem hdX0_ahead : yX0_ahead.cls = RX0 ∧ yX0_ahead.cls ≠ "java/lang/invoke/MethodHandle" ∧ yX0_ahead.cls ≠ "java/lang/invoke/VarHandle" ∧ (parseMethodDescriptor yX0_ahead.desc).map (fun d => d.parameters.length) = some 2 := by decide +kernel
set_option maxHeartbeats 4000000 in
set_option maxRecDepth 100000 in
theorem mX0_ahead (l : Launch) (dC : Nat → ClassId) (dI : Nat → Nat → Nat) (h qb qj qm qw qr : Nat) (cA : ClassId) (n : Nat) (rec lim : Int32) (fb fj fm fw fr : Nat → Int32) (sz : Nat) (x : Int32) (y : Int32) (hn : n ≤ 8) : Met l yX0_ahead wsX0_ahead ({ frames := 4, cells := 0, slots := 0, locals := 89 }) (va_Pc [.ref h, .int x, .int y] (qPw (dC, dI) vwCl [(cA, .int)] (wX h qb qj qm qw qr cA (nI n) rec lim fb fj fm fw fr) sz)) (va_Qi (fun (r_ : Int32) (u : Nat → Int32) => r_ = aAhead (mk fm) (mk fw) lim (nI n) x y) (fun (u : Nat → Int32) => qBw (dC, dI) vwCl [(cA, .int)] (wX h qb qj qm qw qr cA (nI n) rec lim fb fj fm fw fr) (wX h qb qj qm qw qr cA (nI n) rec lim fb fj fm fw u) sz) (va_A (wX h qb qj qm qw qr cA (nI n) rec lim fb fj fm fw fr) sz)) 0 0 (va_A (wX h qb qj qm qw qr cA (nI n) rec lim fb fj fm fw fr) sz) := by
  refine Met.ofW (cc := cX0_ahead) (maxL := 3) (ret := (some .int)) (by decide) rfl ?_
  intro p e s m args below meth c s₁ B hml hv
  obtain ⟨rfl, hsz, hP, hK, hD0⟩ := hv
  have hx := B.exec
  have hb := B.bytes
  have hr := B.returns
  have hts := atoms_spec (ws := wsX0_ahead) B.pre
  have hown : s.vm.findClass RX0 = some m.cls := findClass_of_methodNamed B.named
  have hlk := B.notSynchronized
  subst hsz
  have hD := hD0.self (sz := s.heap.size)
  have hA : ∀ q : Nat, s.heap.size ≤ q → va_A (wX h qb qj qm qw qr cA (nI n) rec lim fb fj fm fw fr) s.heap.size q := fun q h => Or.inr h
  have hS : va_S (va_A (wX h qb qj qm qw qr cA (nI n) rec lim fb fj fm fw fr) s.heap.size) s.heap s.heap [] := va_S.rf
  have hl := lv_entry ([.ref h, .int x, .int y]) (n := 3) (Nat.le_of_ble_eq_true rfl)
  rw [lg_entry_eq]
  generalize (lg_sl ([.ref h, .int x, .int y]) ++ List.replicate (3 - (lg_sl ([.ref h, .int x, .int y])).length) Slot.unset).toArray = ls at hl ⊢
  have hl : lv_has ls 3 [(0, .ref h), (1, .int x), (2, .int y)] := hl
  refine lv_aload_n hx hb dX0_ahead_0 rfl (lv_at hl 0 rfl) ?_
  refine lv_iload_n hx hb dX0_ahead_1 rfl (lv_at hl 1 rfl) ?_
  refine q_cv [.int x] (rest := []) ⟨hx, hb, hml, hown, hts⟩ (mX0_isJumper l dC dI h qb qj qm qw qr cA n rec lim fb fj fm fw fr x) gX0_ahead_X0_isJumper rfl rfl rfl hdX0_isJumper ⟨Nat.le_of_ble_eq_true rfl, Nat.le_of_ble_eq_true rfl⟩ rfl hK hP rfl rfl hl.1 rfl (Nat.le_of_ble_eq_true rfl) dX0_ahead_2 ⟨Nat.zero_le _, Nat.zero_le _⟩ ?_
  refine lv_if_eq (tgt := 16) hx hb dX0_ahead_5 (by decide) (fun c_1 => ?_) (fun c_1 => ?_)
  · skip
    have c_1 : (jmp (nI n) x) = false := b2i_0 c_1
    refine lv_sipush (v := (-1000)) hx hb dX0_ahead_16 (by decide) ?_
    exact q_wi (w1 := (fun (u : Nat → Int32) => wX h qb qj qm qw qr cA (nI n) rec lim fb fj fm fw u)) fr hx hb hr hlk hK hP hD hS (by simp [aAhead, c_1]) dX0_ahead_19
  · skip
    have c_1 : (jmp (nI n) x) = true := b2i_n c_1
    refine lv_aload_n hx hb dX0_ahead_8 rfl (lv_at hl 0 rfl) ?_
    refine lv_iload_n hx hb dX0_ahead_9 rfl (lv_at hl 2 rfl) ?_
    refine q_cv [.int y] (rest := []) ⟨hx, hb, hml, hown, hts⟩ (mX0_isJumper l dC dI h qb qj qm qw qr cA n rec lim fb fj fm fw fr y) gX0_ahead_X0_isJumper rfl rfl rfl hdX0_isJumper ⟨Nat.le_of_ble_eq_true rfl, Nat.le_of_ble_eq_true rfl⟩ rfl hK hP rfl rfl hl.1 rfl (Nat.le_of_ble_eq_true rfl) dX0_ahead_10 ⟨Nat.zero_le _, Nat.zero_le _⟩ ?_
    refine lv_if_ne (tgt := 20) hx hb dX0_ahead_13 (by decide) (fun c_2 => ?_) (fun c_2 => ?_)
    · skip
      have c_2 : (jmp (nI n) y) = true := b2i_n c_2
      obtain ⟨a8, ha8, rfl⟩ := jmp_of c_1 hn
      obtain ⟨b8, hb8, rfl⟩ := jmp_of c_2 hn
      refine lv_aload_n hx hb dX0_ahead_20 rfl (lv_at hl 0 rfl) ?_
      refine lv_iload_n hx hb dX0_ahead_21 rfl (lv_at hl 1 rfl) ?_
      refine q_cwv [.int (nI a8)] (rest := []) ⟨hx, hb, hml, hown, hts⟩ (mX0_layOut l dC dI h qb qj qm qw qr cA n rec lim fb fj fm fw fr _ a8 (by omega)) gX0_ahead_X0_layOut rfl rfl rfl hdX0_layOut ⟨Nat.le_of_ble_eq_true rfl, Nat.le_of_ble_eq_true rfl⟩ rfl hK hP hD hS hA rfl rfl hl.1 rfl (Nat.le_of_ble_eq_true rfl) dX0_ahead_22 ⟨Nat.zero_le _, Nat.zero_le _⟩ (fun u_3 H locs hu_3 hP hD hS => ?_)
      have hP : va_P (dC, dI) vwCl (wX h qb qj qm qw qr cA (nI n) rec lim fb fj fm fw u_3) H := hP
      have hD : va_D (va_A (wX h qb qj qm qw qr cA (nI n) rec lim fb fj fm fw fr) s.heap.size) (wX h qb qj qm qw qr cA (nI n) rec lim fb fj fm fw u_3) := hD
      refine lv_aload_n hx hb dX0_ahead_25 rfl (lv_at hl 0 rfl) ?_
      refine lv_iload_n hx hb dX0_ahead_26 rfl (lv_at hl 2 rfl) ?_
      refine q_cwv [.int (nI b8)] (rest := []) ⟨hx, hb, hml, hown, hts⟩ (mX0_layOut l dC dI h qb qj qm qw qr cA n rec lim fb fj fm fw u_3 _ b8 (by omega)) gX0_ahead_X0_layOut rfl rfl rfl hdX0_layOut ⟨Nat.le_of_ble_eq_true rfl, Nat.le_of_ble_eq_true rfl⟩ rfl hK hP hD hS hA rfl rfl hl.1 rfl (Nat.le_of_ble_eq_true rfl) dX0_ahead_27 ⟨Nat.zero_le _, Nat.zero_le _⟩ (fun u_4 H locs hu_4 hP hD hS => ?_)
      have hP : va_P (dC, dI) vwCl (wX h qb qj qm qw qr cA (nI n) rec lim fb fj fm fw u_4) H := hP
      have hD : va_D (va_A (wX h qb qj qm qw qr cA (nI n) rec lim fb fj fm fw fr) s.heap.size) (wX h qb qj qm qw qr cA (nI n) rec lim fb fj fm fw u_4) := hD
      refine lv_aload_n hx hb dX0_ahead_30 rfl (lv_at hl 0 rfl) ?_
      refine lv_iload_n hx hb dX0_ahead_31 rfl (lv_at hl 1 rfl) ?_
      refine lv_iload_n hx hb dX0_ahead_32 rfl (lv_at hl 2 rfl) ?_
      refine q_cv [.int (nI a8), .int (nI b8)] (rest := []) ⟨hx, hb, hml, hown, hts⟩ (mX0_isAhead l dC dI h qb qj qm qw qr cA n rec lim fb fj fm fw u_4 a8 b8 (by omega) (by omega)) gX0_ahead_X0_isAhead rfl rfl rfl hdX0_isAhead ⟨Nat.le_of_ble_eq_true rfl, Nat.le_of_ble_eq_true rfl⟩ rfl hK hP rfl rfl hl.1 rfl (Nat.le_of_ble_eq_true rfl) dX0_ahead_33 ⟨Nat.zero_le _, Nat.zero_le _⟩ ?_
      refine lv_if_eq (tgt := 43) hx hb dX0_ahead_36 (by decide) (fun c_5 => ?_) (fun c_5 => ?_)
      · skip
        have c_5 : (lx6 (mk u_4 a8) (mk u_4 b8)) = false := b2i_0 c_5
        refine lv_iconst (v := 0) hx hb dX0_ahead_43 (by decide) ?_
        exact q_wi (w1 := (fun (u : Nat → Int32) => wX h qb qj qm qw qr cA (nI n) rec lim fb fj fm fw u)) u_4 hx hb hr hlk hK hP hD hS (by rw [aAhead, if_pos (by simp [c_1, c_2]), nI_clamp (by omega), nI_clamp (by omega), ← lo_lx hu_3 hu_4, c_5]; rfl) dX0_ahead_44
      · skip
        have c_5 : (lx6 (mk u_4 a8) (mk u_4 b8)) = true := b2i_n c_5
        refine lv_iconst (v := 1) hx hb dX0_ahead_39 (by decide) ?_
        refine lv_goto (tgt := 44) hx hb dX0_ahead_40 (by decide) ?_
        exact q_wi (w1 := (fun (u : Nat → Int32) => wX h qb qj qm qw qr cA (nI n) rec lim fb fj fm fw u)) u_4 hx hb hr hlk hK hP hD hS (by rw [aAhead, if_pos (by simp [c_1, c_2]), nI_clamp (by omega), nI_clamp (by omega), ← lo_lx hu_3 hu_4, c_5]; rfl) dX0_ahead_44
    · skip
      have c_2 : (jmp (nI n) y) = false := b2i_0 c_2
      refine lv_sipush (v := (-1000)) hx hb dX0_ahead_16 (by decide) ?_
      exact q_wi (w1 := (fun (u : Nat → Int32) => wX h qb qj qm qw qr cA (nI n) rec lim fb fj fm fw u)) fr hx hb hr hlk hK hP hD hS (by simp [aAhead, c_1, c_2]) dX0_ahead_19

theorem hdX0_place : yX0_place.cls = RX0 ∧ yX0_place.cls ≠ "java/lang/invoke/MethodHandle" ∧ yX0_place.cls ≠ "java/lang/invoke/VarHandle" ∧ (parseMethodDescriptor yX0_place.desc).map (fun d => d.parameters.length) = some 1 := by decide +kernel
set_option maxHeartbeats 4000000 in
set_option maxRecDepth 100000 in
theorem mX0_place (l : Launch) (dC : Nat → ClassId) (dI : Nat → Nat → Nat) (h qb qj qm qw qr : Nat) (cA : ClassId) (n : Nat) (rec lim : Int32) (fb fj fm fw fr : Nat → Int32) (sz : Nat) (x : Int32) (hn : n ≤ 8) : Met l yX0_place wsX0_place ({ frames := 5, cells := 0, slots := 0, locals := 110 }) (va_Pc [.ref h, .int x] (qPw (dC, dI) vwCl [(cA, .int)] (wX h qb qj qm qw qr cA (nI n) rec lim fb fj fm fw fr) sz)) (va_Qi (fun (r_ : Int32) (u : Nat → Int32) => r_ = aPlace (mk fm) (mk fw) lim n x) (fun (u : Nat → Int32) => qBw (dC, dI) vwCl [(cA, .int)] (wX h qb qj qm qw qr cA (nI n) rec lim fb fj fm fw fr) (wX h qb qj qm qw qr cA (nI n) rec lim fb fj fm fw u) sz) (va_A (wX h qb qj qm qw qr cA (nI n) rec lim fb fj fm fw fr) sz)) 0 0 (va_A (wX h qb qj qm qw qr cA (nI n) rec lim fb fj fm fw fr) sz) := by
  refine Met.ofW (cc := cX0_place) (maxL := 4) (ret := (some .int)) (by decide) rfl ?_
  intro p e s m args below meth c s₁ B hml hv
  obtain ⟨rfl, hsz, hP, hK, hD0⟩ := hv
  have hx := B.exec
  have hb := B.bytes
  have hr := B.returns
  have hts := atoms_spec (ws := wsX0_place) B.pre
  have hown : s.vm.findClass RX0 = some m.cls := findClass_of_methodNamed B.named
  have hlk := B.notSynchronized
  have hin : ∀ w ∈ wsX00, w ∈ wsX0_place := fun w h => List.mem_cons_of_mem _ (List.mem_append_right _ h)
  have hf_7 := hts (.fieldLink RX0 7 "JumpBoard" "jumpers" "I") (by decide +kernel)
  subst hsz
  have hD := hD0.self (sz := s.heap.size)
  have hA : ∀ q : Nat, s.heap.size ≤ q → va_A (wX h qb qj qm qw qr cA (nI n) rec lim fb fj fm fw fr) s.heap.size q := fun q h => Or.inr h
  have hS : va_S (va_A (wX h qb qj qm qw qr cA (nI n) rec lim fb fj fm fw fr) s.heap.size) s.heap s.heap [] := va_S.rf
  have hl := lv_entry ([.ref h, .int x]) (n := 4) (Nat.le_of_ble_eq_true rfl)
  rw [lg_entry_eq]
  generalize (lg_sl ([.ref h, .int x]) ++ List.replicate (4 - (lg_sl ([.ref h, .int x])).length) Slot.unset).toArray = ls at hl ⊢
  have hl : lv_has ls 4 [(0, .ref h), (1, .int x)] := hl
  refine lv_aload_n hx hb dX0_place_0 rfl (lv_at hl 0 rfl) ?_
  refine lv_iload_n hx hb dX0_place_1 rfl (lv_at hl 1 rfl) ?_
  refine q_cv [.int x] (rest := []) ⟨hx, hb, hml, hown, hts⟩ (mX0_isJumper l dC dI h qb qj qm qw qr cA n rec lim fb fj fm fw fr x) gX0_place_X0_isJumper rfl rfl rfl hdX0_isJumper ⟨Nat.le_of_ble_eq_true rfl, Nat.le_of_ble_eq_true rfl⟩ rfl hK hP rfl rfl hl.1 rfl (Nat.le_of_ble_eq_true rfl) dX0_place_2 ⟨Nat.zero_le _, Nat.zero_le _⟩ ?_
  refine lv_if_ne (tgt := 12) hx hb dX0_place_5 (by decide) (fun c_1 => ?_) (fun c_1 => ?_)
  · skip
    have c_1 : (jmp (nI n) x) = true := b2i_n c_1
    obtain ⟨j, hj, rfl⟩ := jmp_of c_1 hn
    refine lv_aload_n hx hb dX0_place_12 rfl (lv_at hl 0 rfl) ?_
    refine lv_iload_n hx hb dX0_place_13 rfl (lv_at hl 1 rfl) ?_
    refine q_cv [.int (nI j)] (rest := []) ⟨hx, hb, hml, hown, hts⟩ (mX0_bestOf l dC dI h qb qj qm qw qr cA n rec lim fb fj fm fw fr j (by omega)) gX0_place_X0_bestOf rfl rfl rfl hdX0_bestOf ⟨Nat.le_of_ble_eq_true rfl, Nat.le_of_ble_eq_true rfl⟩ rfl hK hP rfl rfl hl.1 rfl (Nat.le_of_ble_eq_true rfl) dX0_place_14 ⟨Nat.zero_le _, Nat.zero_le _⟩ ?_
    refine lv_if_ne (tgt := 22) hx hb dX0_place_17 (by decide) (fun c_2 => ?_) (fun c_2 => ?_)
    · skip
      refine lv_aload_n hx hb dX0_place_22 rfl (lv_at hl 0 rfl) ?_
      refine q_cwv [] (rest := []) ⟨hx, hb, hml, hown, hts⟩ (mX0_layOutAll l dC dI h qb qj qm qw qr cA n rec lim fb fj fm fw fr _ (by omega)) gX0_place_X0_layOutAll rfl rfl rfl hdX0_layOutAll ⟨Nat.le_of_ble_eq_true rfl, Nat.le_of_ble_eq_true rfl⟩ rfl hK hP hD hS hA rfl rfl hl.1 rfl (Nat.le_of_ble_eq_true rfl) dX0_place_23 ⟨Nat.zero_le _, Nat.zero_le _⟩ (fun u_3 H locs hu_3 hP hD hS => ?_)
      have hP : va_P (dC, dI) vwCl (wX h qb qj qm qw qr cA (nI n) rec lim fb fj fm fw u_3) H := hP
      have hD : va_D (va_A (wX h qb qj qm qw qr cA (nI n) rec lim fb fj fm fw fr) s.heap.size) (wX h qb qj qm qw qr cA (nI n) rec lim fb fj fm fw u_3) := hD
      refine lv_iconst (v := 0) hx hb dX0_place_26 (by decide) ?_
      refine lv_istore_n (lv' := [(2, .int 0), (0, .ref h), (1, .int (nI j))]) hx hb dX0_place_27 rfl hl (by decide) rfl (fun ls hl => ?_)
      refine lv_iconst (v := 0) hx hb dX0_place_28 (by decide) ?_
      refine lv_istore_n (lv' := [(3, .int 0), (2, .int 0), (0, .ref h), (1, .int (nI j))]) hx hb dX0_place_29 rfl hl (by decide) rfl (fun ls hl => ?_)
      refine q_lp (head := 30) (n) (fun i => [(0, .ref h), (1, .int (nI j)), (2, .int (nI (cntB (fun o => lx6 (mk u_3 o) (mk u_3 j)) i))), (3, .int (nI i))]) (fun i => True) (0) (by omega) (trivial) (q_hl (lv_sub (l' := [(0, .ref h), (1, .int (nI j)), (2, .int 0), (3, .int 0)]) hl [2, 3, 1, 0] rfl) (q_ck (q_ck (q_ce (by rfl) (q_ce (by rfl) (rfl)))))) ?_ ?_
      · intro i hi_i hI_i ih_i ls hl
        have hl : lv_has ls 4 [(0, .ref h), (1, .int (nI j)), (2, .int (nI (cntB (fun o => lx6 (mk u_3 o) (mk u_3 j)) i))), (3, .int (nI i))] := hl
        refine lv_iload_n hx hb dX0_place_30 rfl (lv_at hl 3 rfl) ?_
        refine lv_aload_n hx hb dX0_place_31 rfl (lv_at hl 0 rfl) ?_
        refine va_get (D := (dC, dI)) (ci := 0) (v := .int (nI n)) (C := RX0) (T := TX0) (N := 8) hx hb hts hin hown hK hP 0 rfl rfl 0 (by decide) hf_7 (fun _ h9 => h9) rfl dX0_place_32 ?_
        refine lv_icmp_ge (tgt := 56) hx hb dX0_place_35 (by decide) (fun c_4 => absurd c_4 (nI_ge hi_i (by omega))) (fun c_4 => ?_)
        refine lv_aload_n hx hb dX0_place_38 rfl (lv_at hl 0 rfl) ?_
        refine lv_iload_n hx hb dX0_place_39 rfl (lv_at hl 3 rfl) ?_
        refine lv_iload_n hx hb dX0_place_40 rfl (lv_at hl 1 rfl) ?_
        refine q_cv [.int (nI i), .int (nI j)] (rest := []) ⟨hx, hb, hml, hown, hts⟩ (mX0_isAhead l dC dI h qb qj qm qw qr cA n rec lim fb fj fm fw u_3 i j (by omega) (by omega)) gX0_place_X0_isAhead rfl rfl rfl hdX0_isAhead ⟨Nat.le_of_ble_eq_true rfl, Nat.le_of_ble_eq_true rfl⟩ rfl hK hP rfl rfl hl.1 rfl (Nat.le_of_ble_eq_true rfl) dX0_place_41 ⟨Nat.zero_le _, Nat.zero_le _⟩ ?_
        refine lv_if_eq (tgt := 50) hx hb dX0_place_44 (by decide) (fun c_5 => ?_) (fun c_5 => ?_)
        · skip
          have c_5 : (lx6 (mk u_3 i) (mk u_3 j)) = false := b2i_0 c_5
          refine lv_iinc (v := (nI (i + 1))) (lv' := [(3, .int (nI (i + 1))), (0, .ref h), (1, .int (nI j)), (2, .int (nI (cntB (fun o => lx6 (mk u_3 o) (mk u_3 j)) i)))]) hx hb dX0_place_50 hl (k := 3) rfl (by exact nI_1 _) (by decide) rfl (fun ls hl => ?_)
          refine lv_goto (tgt := 30) hx hb dX0_place_53 (by decide) ?_
          exact ih_i (by exact trivial) ls (q_hl (lv_sub (l' := [(0, .ref h), (1, .int (nI j)), (2, .int (nI (cntB (fun o => lx6 (mk u_3 o) (mk u_3 j)) i))), (3, .int (nI (i + 1)))]) hl [1, 2, 3, 0] rfl) (q_ck (q_ck (q_ce (by simp [cntB, c_1, c_2, c_5]) (q_ck (rfl))))))
        · skip
          have c_5 : (lx6 (mk u_3 i) (mk u_3 j)) = true := b2i_n c_5
          refine lv_iinc (v := (nI ((cntB (fun o => lx6 (mk u_3 o) (mk u_3 j)) i) + 1))) (lv' := [(2, .int (nI ((cntB (fun o => lx6 (mk u_3 o) (mk u_3 j)) i) + 1))), (0, .ref h), (1, .int (nI j)), (3, .int (nI i))]) hx hb dX0_place_47 hl (k := 2) rfl (by exact nI_1 _) (by decide) rfl (fun ls hl => ?_)
          refine lv_iinc (v := (nI (i + 1))) (lv' := [(3, .int (nI (i + 1))), (2, .int (nI ((cntB (fun o => lx6 (mk u_3 o) (mk u_3 j)) i) + 1))), (0, .ref h), (1, .int (nI j))]) hx hb dX0_place_50 hl (k := 3) rfl (by exact nI_1 _) (by decide) rfl (fun ls hl => ?_)
          refine lv_goto (tgt := 30) hx hb dX0_place_53 (by decide) ?_
          exact ih_i (by exact trivial) ls (q_hl (lv_sub (l' := [(0, .ref h), (1, .int (nI j)), (2, .int (nI ((cntB (fun o => lx6 (mk u_3 o) (mk u_3 j)) i) + 1))), (3, .int (nI (i + 1)))]) hl [2, 3, 1, 0] rfl) (q_ck (q_ck (q_ce (by simp [cntB, c_1, c_2, c_5]) (q_ck (rfl))))))
      · intro hI_i ls hl
        have hl : lv_has ls 4 [(0, .ref h), (1, .int (nI j)), (2, .int (nI (cntB (fun o => lx6 (mk u_3 o) (mk u_3 j)) n))), (3, .int (nI n))] := hl
        refine lv_iload_n hx hb dX0_place_30 rfl (lv_at hl 3 rfl) ?_
        refine lv_aload_n hx hb dX0_place_31 rfl (lv_at hl 0 rfl) ?_
        refine va_get (D := (dC, dI)) (ci := 0) (v := .int (nI n)) (C := RX0) (T := TX0) (N := 8) hx hb hts hin hown hK hP 0 rfl rfl 0 (by decide) hf_7 (fun _ h9 => h9) rfl dX0_place_32 ?_
        refine lv_icmp_ge (tgt := 56) hx hb dX0_place_35 (by decide) (fun c_6 => ?_) (fun c_6 => absurd (nI_le (Nat.le_refl n) (by omega)) c_6)
        refine lv_iload_n hx hb dX0_place_56 rfl (lv_at hl 2 rfl) ?_
        refine lv_iconst (v := 1) hx hb dX0_place_57 (by decide) ?_
        refine lv_iadd hx hb dX0_place_58 ?_
        exact q_wi (w1 := (fun (u : Nat → Int32) => wX h qb qj qm qw qr cA (nI n) rec lim fb fj fm fw u)) u_3 hx hb hr hlk hK hP hD hS (by rw [aPlace, if_pos c_1, nI_clamp (by omega), if_neg c_2, la_place hu_3 hj]) dX0_place_59
    · skip
      refine lv_iconst (v := 0) hx hb dX0_place_20 (by decide) ?_
      exact q_wi (w1 := (fun (u : Nat → Int32) => wX h qb qj qm qw qr cA (nI n) rec lim fb fj fm fw u)) fr hx hb hr hlk hK hP hD hS (by rw [aPlace, if_pos c_1, nI_clamp (by omega), if_pos c_2]) dX0_place_21
  · skip
    have c_1 : (jmp (nI n) x) = false := b2i_0 c_1
    refine lv_sipush (v := (-1000)) hx hb dX0_place_8 (by decide) ?_
    exact q_wi (w1 := (fun (u : Nat → Int32) => wX h qb qj qm qw qr cA (nI n) rec lim fb fj fm fw u)) fr hx hb hr hlk hK hP hD hS (by simp [aPlace, c_1]) dX0_place_11

theorem hdX0_order : yX0_order.cls = RX0 ∧ yX0_order.cls ≠ "java/lang/invoke/MethodHandle" ∧ yX0_order.cls ≠ "java/lang/invoke/VarHandle" ∧ (parseMethodDescriptor yX0_order.desc).map (fun d => d.parameters.length) = some 1 := by decide +kernel
set_option maxHeartbeats 4000000 in
set_option maxRecDepth 100000 in
theorem mX0_order (l : Launch) (dC : Nat → ClassId) (dI : Nat → Nat → Nat) (h qb qj qm qw qr : Nat) (cA : ClassId) (n : Nat) (rec lim : Int32) (fb fj fm fw fr : Nat → Int32) (sz : Nat) (k : Int32) (hn : n ≤ 8) : Met l yX0_order wsX0_order ({ frames := 5, cells := 0, slots := 0, locals := 110 }) (va_Pc [.ref h, .int k] (qPw (dC, dI) vwCl [(cA, .int)] (wX h qb qj qm qw qr cA (nI n) rec lim fb fj fm fw fr) sz)) (va_Qi (fun (r_ : Int32) (u : Nat → Int32) => r_ = aOrder 0 (mk fm) (mk fw) lim n k) (fun (u : Nat → Int32) => qBw (dC, dI) vwCl [(cA, .int)] (wX h qb qj qm qw qr cA (nI n) rec lim fb fj fm fw fr) (wX h qb qj qm qw qr cA (nI n) rec lim fb fj fm fw u) sz) (va_A (wX h qb qj qm qw qr cA (nI n) rec lim fb fj fm fw fr) sz)) 0 0 (va_A (wX h qb qj qm qw qr cA (nI n) rec lim fb fj fm fw fr) sz) := by
  refine Met.ofW (cc := cX0_order) (maxL := 4) (ret := (some .int)) (by decide) rfl ?_
  intro p e s m args below meth c s₁ B hml hv
  obtain ⟨rfl, hsz, hP, hK, hD0⟩ := hv
  have hx := B.exec
  have hb := B.bytes
  have hr := B.returns
  have hts := atoms_spec (ws := wsX0_order) B.pre
  have hown : s.vm.findClass RX0 = some m.cls := findClass_of_methodNamed B.named
  have hlk := B.notSynchronized
  have hin : ∀ w ∈ wsX00, w ∈ wsX0_order := fun w h => List.mem_cons_of_mem _ (List.mem_append_right _ h)
  have hf_7 := hts (.fieldLink RX0 7 "JumpBoard" "jumpers" "I") (by decide +kernel)
  subst hsz
  have hD := hD0.self (sz := s.heap.size)
  have hA : ∀ q : Nat, s.heap.size ≤ q → va_A (wX h qb qj qm qw qr cA (nI n) rec lim fb fj fm fw fr) s.heap.size q := fun q h => Or.inr h
  have hS : va_S (va_A (wX h qb qj qm qw qr cA (nI n) rec lim fb fj fm fw fr) s.heap.size) s.heap s.heap [] := va_S.rf
  have hl := lv_entry ([.ref h, .int k]) (n := 4) (Nat.le_of_ble_eq_true rfl)
  rw [lg_entry_eq]
  generalize (lg_sl ([.ref h, .int k]) ++ List.replicate (4 - (lg_sl ([.ref h, .int k])).length) Slot.unset).toArray = ls at hl ⊢
  have hl : lv_has ls 4 [(0, .ref h), (1, .int k)] := hl
  refine lv_iload_n hx hb dX0_order_0 rfl (lv_at hl 1 rfl) ?_
  refine lv_if_lt (tgt := 12) hx hb dX0_order_1 (by decide) (fun c_1 => ?_) (fun c_1 => ?_)
  · skip
    refine lv_sipush (v := (-1000)) hx hb dX0_order_12 (by decide) ?_
    exact q_wi (w1 := (fun (u : Nat → Int32) => wX h qb qj qm qw qr cA (nI n) rec lim fb fj fm fw u)) fr hx hb hr hlk hK hP hD hS (by simp [aOrder, jmp, c_1]) dX0_order_15
  · skip
    refine lv_iload_n hx hb dX0_order_4 rfl (lv_at hl 1 rfl) ?_
    refine lv_aload_n hx hb dX0_order_5 rfl (lv_at hl 0 rfl) ?_
    refine va_get (D := (dC, dI)) (ci := 0) (v := .int (nI n)) (C := RX0) (T := TX0) (N := 8) hx hb hts hin hown hK hP 0 rfl rfl 0 (by decide) hf_7 (fun _ h9 => h9) rfl dX0_order_6 ?_
    refine lv_icmp_lt (tgt := 16) hx hb dX0_order_9 (by decide) (fun c_2 => ?_) (fun c_2 => ?_)
    · skip
      refine lv_aload_n hx hb dX0_order_16 rfl (lv_at hl 0 rfl) ?_
      refine q_cwv [] (rest := []) ⟨hx, hb, hml, hown, hts⟩ (mX0_layOutAll l dC dI h qb qj qm qw qr cA n rec lim fb fj fm fw fr _ (by omega)) gX0_order_X0_layOutAll rfl rfl rfl hdX0_layOutAll ⟨Nat.le_of_ble_eq_true rfl, Nat.le_of_ble_eq_true rfl⟩ rfl hK hP hD hS hA rfl rfl hl.1 rfl (Nat.le_of_ble_eq_true rfl) dX0_order_17 ⟨Nat.zero_le _, Nat.zero_le _⟩ (fun u_3 H locs hu_3 hP hD hS => ?_)
      have hP : va_P (dC, dI) vwCl (wX h qb qj qm qw qr cA (nI n) rec lim fb fj fm fw u_3) H := hP
      have hD : va_D (va_A (wX h qb qj qm qw qr cA (nI n) rec lim fb fj fm fw fr) s.heap.size) (wX h qb qj qm qw qr cA (nI n) rec lim fb fj fm fw u_3) := hD
      refine lv_iconst (v := 0) hx hb dX0_order_20 (by decide) ?_
      refine lv_istore_n (lv' := [(2, .int 0), (0, .ref h), (1, .int k)]) hx hb dX0_order_21 rfl hl (by decide) rfl (fun ls hl => ?_)
      refine lv_iconst (v := 0) hx hb dX0_order_22 (by decide) ?_
      refine lv_istore_n (lv' := [(3, .int 0), (2, .int 0), (0, .ref h), (1, .int k)]) hx hb dX0_order_23 rfl hl (by decide) rfl (fun ls hl => ?_)
      refine q_lp (head := 24) (n) (fun i => [(0, .ref h), (1, .int k), (2, .int (fndI 0 (fun j => nI (cntB (fun o => befR (mk u_3) o j) n)) k i)), (3, .int (nI i))]) (fun i => True) (0) (by omega) (trivial) (q_hl (lv_sub (l' := [(0, .ref h), (1, .int k), (2, .int 0), (3, .int 0)]) hl [2, 3, 1, 0] rfl) (q_ck (q_ck (q_ce (by rfl) (q_ce (by rfl) (rfl)))))) ?_ ?_
      · intro i hi_i hI_i ih_i ls hl
        have hl : lv_has ls 4 [(0, .ref h), (1, .int k), (2, .int (fndI 0 (fun j => nI (cntB (fun o => befR (mk u_3) o j) n)) k i)), (3, .int (nI i))] := hl
        refine lv_iload_n hx hb dX0_order_24 rfl (lv_at hl 3 rfl) ?_
        refine lv_aload_n hx hb dX0_order_25 rfl (lv_at hl 0 rfl) ?_
        refine va_get (D := (dC, dI)) (ci := 0) (v := .int (nI n)) (C := RX0) (T := TX0) (N := 8) hx hb hts hin hown hK hP 0 rfl rfl 0 (by decide) hf_7 (fun _ h9 => h9) rfl dX0_order_26 ?_
        refine lv_icmp_ge (tgt := 49) hx hb dX0_order_29 (by decide) (fun c_4 => absurd c_4 (nI_ge hi_i (by omega))) (fun c_4 => ?_)
        refine lv_aload_n hx hb dX0_order_32 rfl (lv_at hl 0 rfl) ?_
        refine lv_iload_n hx hb dX0_order_33 rfl (lv_at hl 3 rfl) ?_
        refine q_cv [.int (nI i)] (rest := []) ⟨hx, hb, hml, hown, hts⟩ (mX0_howManyJumpBefore l dC dI h qb qj qm qw qr cA n rec lim fb fj fm fw u_3 i (by omega) (by omega)) gX0_order_X0_howManyJumpBefore rfl rfl rfl hdX0_howManyJumpBefore ⟨Nat.le_of_ble_eq_true rfl, Nat.le_of_ble_eq_true rfl⟩ rfl hK hP rfl rfl hl.1 rfl (Nat.le_of_ble_eq_true rfl) dX0_order_34 ⟨Nat.zero_le _, Nat.zero_le _⟩ ?_
        refine lv_iload_n hx hb dX0_order_37 rfl (lv_at hl 1 rfl) ?_
        refine lv_icmp_ne (tgt := 43) hx hb dX0_order_38 (by decide) (fun c_5 => ?_) (fun c_5 => ?_)
        · skip
          refine lv_iinc (v := (nI (i + 1))) (lv' := [(3, .int (nI (i + 1))), (0, .ref h), (1, .int k), (2, .int (fndI 0 (fun j => nI (cntB (fun o => befR (mk u_3) o j) n)) k i))]) hx hb dX0_order_43 hl (k := 3) rfl (by exact nI_1 _) (by decide) rfl (fun ls hl => ?_)
          refine lv_goto (tgt := 24) hx hb dX0_order_46 (by decide) ?_
          exact ih_i (by exact trivial) ls (q_hl (lv_sub (l' := [(0, .ref h), (1, .int k), (2, .int (fndI 0 (fun j => nI (cntB (fun o => befR (mk u_3) o j) n)) k i)), (3, .int (nI (i + 1)))]) hl [1, 2, 3, 0] rfl) (q_ck (q_ck (q_ce (by simp [fndI, c_5]) (q_ck (rfl))))))
        · skip
          refine lv_iload_n hx hb dX0_order_41 rfl (lv_at hl 3 rfl) ?_
          refine lv_istore_n (lv' := [(2, .int (nI i)), (0, .ref h), (1, .int k), (3, .int (nI i))]) hx hb dX0_order_42 rfl hl (by decide) rfl (fun ls hl => ?_)
          refine lv_iinc (v := (nI (i + 1))) (lv' := [(3, .int (nI (i + 1))), (2, .int (nI i)), (0, .ref h), (1, .int k)]) hx hb dX0_order_43 hl (k := 3) rfl (by exact nI_1 _) (by decide) rfl (fun ls hl => ?_)
          refine lv_goto (tgt := 24) hx hb dX0_order_46 (by decide) ?_
          exact ih_i (by exact trivial) ls (q_hl (lv_sub (l' := [(0, .ref h), (1, .int k), (2, .int (nI i)), (3, .int (nI (i + 1)))]) hl [2, 3, 1, 0] rfl) (q_ck (q_ck (q_ce (by simp [fndI, c_5]) (q_ck (rfl))))))
      · intro hI_i ls hl
        have hl : lv_has ls 4 [(0, .ref h), (1, .int k), (2, .int (fndI 0 (fun j => nI (cntB (fun o => befR (mk u_3) o j) n)) k n)), (3, .int (nI n))] := hl
        refine lv_iload_n hx hb dX0_order_24 rfl (lv_at hl 3 rfl) ?_
        refine lv_aload_n hx hb dX0_order_25 rfl (lv_at hl 0 rfl) ?_
        refine va_get (D := (dC, dI)) (ci := 0) (v := .int (nI n)) (C := RX0) (T := TX0) (N := 8) hx hb hts hin hown hK hP 0 rfl rfl 0 (by decide) hf_7 (fun _ h9 => h9) rfl dX0_order_26 ?_
        refine lv_icmp_ge (tgt := 49) hx hb dX0_order_29 (by decide) (fun c_6 => ?_) (fun c_6 => absurd (nI_le (Nat.le_refl n) (by omega)) c_6)
        refine lv_iload_n hx hb dX0_order_49 rfl (lv_at hl 2 rfl) ?_
        exact q_wi (w1 := (fun (u : Nat → Int32) => wX h qb qj qm qw qr cA (nI n) rec lim fb fj fm fw u)) u_3 hx hb hr hlk hK hP hD hS (by rw [aOrder, if_pos (by simp [jmp, c_1, Int32.not_le.mpr c_2]), la_order hu_3]) dX0_order_50
    · skip
      refine lv_sipush (v := (-1000)) hx hb dX0_order_12 (by decide) ?_
      exact q_wi (w1 := (fun (u : Nat → Int32) => wX h qb qj qm qw qr cA (nI n) rec lim fb fj fm fw u)) fr hx hb hr hlk hK hP hD hS (by simp [aOrder, jmp, c_1, c_2]) dX0_order_15

theorem hdX0_enter : yX0_enter.cls = RX0 ∧ yX0_enter.cls ≠ "java/lang/invoke/MethodHandle" ∧ yX0_enter.cls ≠ "java/lang/invoke/VarHandle" ∧ (parseMethodDescriptor yX0_enter.desc).map (fun d => d.parameters.length) = some 1 := by decide +kernel
set_option maxHeartbeats 4000000 in
set_option maxRecDepth 100000 in
theorem mX0_enter (l : Launch) (dC : Nat → ClassId) (dI : Nat → Nat → Nat) (h qb qj qm qw qr : Nat) (cA : ClassId) (n : Nat) (rec lim : Int32) (fb fj fm fw fr : Nat → Int32) (sz : Nat) (b : Int32) (hn : n ≤ 8) : Met l yX0_enter wsX0_enter ({ frames := 1, cells := 0, slots := 0, locals := 22 }) (va_Pc [.ref h, .int b] (qPw (dC, dI) vwCl [(cA, .int)] (wX h qb qj qm qw qr cA (nI n) rec lim fb fj fm fw fr) sz)) (va_Qi (fun (r_ : Int32) (u : Nat × (Nat → Int32)) => (if eB fb n b = true then r_ = nI n ∧ u = (n + 1, upd fb n b) else r_ = -1000 ∧ u = (n, fb))) (fun (u : Nat × (Nat → Int32)) => qBw (dC, dI) vwCl [(cA, .int)] (wX h qb qj qm qw qr cA (nI n) rec lim fb fj fm fw fr) (wX h qb qj qm qw qr cA (nI u.1) rec lim u.2 fj fm fw fr) sz) (va_A (wX h qb qj qm qw qr cA (nI n) rec lim fb fj fm fw fr) sz)) 0 0 (va_A (wX h qb qj qm qw qr cA (nI n) rec lim fb fj fm fw fr) sz) := by
  refine Met.ofW (cc := cX0_enter) (maxL := 3) (ret := (some .int)) (by decide) rfl ?_
  intro p e s m args below meth c s₁ B hml hv
  obtain ⟨rfl, hsz, hP, hK, hD0⟩ := hv
  have hx := B.exec
  have hb := B.bytes
  have hr := B.returns
  have hts := atoms_spec (ws := wsX0_enter) B.pre
  have hown : s.vm.findClass RX0 = some m.cls := findClass_of_methodNamed B.named
  have hlk := B.notSynchronized
  have hin : ∀ w ∈ wsX00, w ∈ wsX0_enter := fun w h => List.mem_cons_of_mem _ (List.mem_append_right _ h)
  have hf_7 := hts (.fieldLink RX0 7 "JumpBoard" "jumpers" "I") (by decide +kernel)
  have hf_19 := hts (.fieldLink RX0 19 "JumpBoard" "bibs" "[I") (by decide +kernel)
  subst hsz
  have hD := hD0.self (sz := s.heap.size)
  have hA : ∀ q : Nat, s.heap.size ≤ q → va_A (wX h qb qj qm qw qr cA (nI n) rec lim fb fj fm fw fr) s.heap.size q := fun q h => Or.inr h
  have hS : va_S (va_A (wX h qb qj qm qw qr cA (nI n) rec lim fb fj fm fw fr) s.heap.size) s.heap s.heap [] := va_S.rf
  have hl := lv_entry ([.ref h, .int b]) (n := 3) (Nat.le_of_ble_eq_true rfl)
  rw [lg_entry_eq]
  generalize (lg_sl ([.ref h, .int b]) ++ List.replicate (3 - (lg_sl ([.ref h, .int b])).length) Slot.unset).toArray = ls at hl ⊢
  have hl : lv_has ls 3 [(0, .ref h), (1, .int b)] := hl
  refine lv_aload_n hx hb dX0_enter_0 rfl (lv_at hl 0 rfl) ?_
  refine va_get (D := (dC, dI)) (ci := 0) (v := .int (nI n)) (C := RX0) (T := TX0) (N := 8) hx hb hts hin hown hK hP 0 rfl rfl 0 (by decide) hf_7 (fun _ h9 => h9) rfl dX0_enter_1 ?_
  refine lv_bipush (v := 8) hx hb dX0_enter_4 (by decide) ?_
  refine lv_icmp_ge (tgt := 29) hx hb dX0_enter_6 (by decide) (fun c_1 => ?_) (fun c_1 => ?_)
  · skip
    refine lv_sipush (v := (-1000)) hx hb dX0_enter_29 (by decide) ?_
    exact q_wi (w1 := (fun (u : Nat × (Nat → Int32)) => wX h qb qj qm qw qr cA (nI u.1) rec lim u.2 fj fm fw fr)) ((n, fb) : Nat × (Nat → Int32)) hx hb hr hlk hK hP hD hS (by rw [if_neg (by simp [eB, c_1])]; exact ⟨rfl, rfl⟩) dX0_enter_32
  · skip
    refine lv_iload_n hx hb dX0_enter_9 rfl (lv_at hl 1 rfl) ?_
    refine lv_iconst (v := 1) hx hb dX0_enter_10 (by decide) ?_
    refine lv_icmp_lt (tgt := 29) hx hb dX0_enter_11 (by decide) (fun c_2 => ?_) (fun c_2 => ?_)
    · skip
      refine lv_sipush (v := (-1000)) hx hb dX0_enter_29 (by decide) ?_
      exact q_wi (w1 := (fun (u : Nat × (Nat → Int32)) => wX h qb qj qm qw qr cA (nI u.1) rec lim u.2 fj fm fw fr)) ((n, fb) : Nat × (Nat → Int32)) hx hb hr hlk hK hP hD hS (by rw [if_neg (by simp [eB, c_1, c_2])]; exact ⟨rfl, rfl⟩) dX0_enter_32
    · skip
      refine lv_iload_n hx hb dX0_enter_14 rfl (lv_at hl 1 rfl) ?_
      refine lv_sipush (v := 999) hx hb dX0_enter_15 (by decide) ?_
      refine lv_icmp_gt (tgt := 29) hx hb dX0_enter_18 (by decide) (fun c_3 => ?_) (fun c_3 => ?_)
      · skip
        refine lv_sipush (v := (-1000)) hx hb dX0_enter_29 (by decide) ?_
        exact q_wi (w1 := (fun (u : Nat × (Nat → Int32)) => wX h qb qj qm qw qr cA (nI u.1) rec lim u.2 fj fm fw fr)) ((n, fb) : Nat × (Nat → Int32)) hx hb hr hlk hK hP hD hS (by rw [if_neg (by simp [eB, c_1, c_2, c_3])]; exact ⟨rfl, rfl⟩) dX0_enter_32
      · skip
        refine lv_aload_n hx hb dX0_enter_21 rfl (lv_at hl 0 rfl) ?_
        refine lv_iload_n hx hb dX0_enter_22 rfl (lv_at hl 1 rfl) ?_
        refine q_cv [.int b] (rest := []) ⟨hx, hb, hml, hown, hts⟩ (mX0_isBibTaken l dC dI h qb qj qm qw qr cA n rec lim fb fj fm fw fr b (by omega)) gX0_enter_X0_isBibTaken rfl rfl rfl hdX0_isBibTaken ⟨Nat.le_of_ble_eq_true rfl, Nat.le_of_ble_eq_true rfl⟩ rfl hK hP rfl rfl hl.1 rfl (Nat.le_of_ble_eq_true rfl) dX0_enter_23 ⟨Nat.zero_le _, Nat.zero_le _⟩ ?_
        refine lv_if_eq (tgt := 33) hx hb dX0_enter_26 (by decide) (fun c_4 => ?_) (fun c_4 => ?_)
        · skip
          have c_4 : (anyB (fun i => decide (fb i = b)) n) = false := b2i_0 c_4
          have hn8 : n < 8 := Nat.not_le.mp (fun q => c_1 (nI_le (a := 8) q (by omega)))
          refine lv_aload_n hx hb dX0_enter_33 rfl (lv_at hl 0 rfl) ?_
          refine va_get (D := (dC, dI)) (ci := 0) (v := .int (nI n)) (C := RX0) (T := TX0) (N := 8) hx hb hts hin hown hK hP 0 rfl rfl 0 (by decide) hf_7 (fun _ h9 => h9) rfl dX0_enter_34 ?_
          refine lv_istore_n (lv' := [(2, .int (nI n)), (0, .ref h), (1, .int b)]) hx hb dX0_enter_37 rfl hl (by decide) rfl (fun ls hl => ?_)
          refine lv_aload_n hx hb dX0_enter_38 rfl (lv_at hl 1 rfl) ?_
          refine va_get (D := (dC, dI)) (ci := 0) (v := .ref qb) (C := RX0) (T := TX0) (N := 8) hx hb hts hin hown hK hP 0 rfl rfl 3 (by decide) hf_19 (fun _ h9 => h9) rfl dX0_enter_39 ?_
          refine lv_iload_n hx hb dX0_enter_42 rfl (lv_at hl 0 rfl) ?_
          refine lv_iload_n hx hb dX0_enter_43 rfl (lv_at hl 2 rfl) ?_
          refine q_ast (n := 8) (k := n) hx hb hK hP hD hS 1 0 rfl rfl (by omega) (by decide) dX0_enter_44 (fun H locs hP hD hS => ?_)
          have hP : va_P (dC, dI) vwCl (wX h qb qj qm qw qr cA (nI n) rec lim (upd fb n b) fj fm fw fr) H := hP
          have hD : va_D (va_A (wX h qb qj qm qw qr cA (nI n) rec lim fb fj fm fw fr) s.heap.size) (wX h qb qj qm qw qr cA (nI n) rec lim (upd fb n b) fj fm fw fr) := hD
          refine lv_aload_n hx hb dX0_enter_45 rfl (lv_at hl 1 rfl) ?_
          refine lv_iload_n hx hb dX0_enter_46 rfl (lv_at hl 0 rfl) ?_
          refine lv_iconst (v := 1) hx hb dX0_enter_47 (by decide) ?_
          refine lv_iadd hx hb dX0_enter_48 ?_
          refine q_top (y := nI (n + 1)) (by exact nI_1 n) ?_
          refine va_put (D := (dC, dI)) (ci := 0) (v := .int (nI (n + 1))) (ty := .int) (C := RX0) (T := TX0) (N := 8) hx hb hts hin tyX0 tyX0_ok nmX0 hown hK hP hD hS 0 rfl rfl 0 (by decide) hf_7 (fun _ h9 => h9) rfl (by decide +kernel) rfl rfl (Nat.le_of_ble_eq_true rfl) dX0_enter_49 (fun H locs hP hD hS => ?_)
          have hP : va_P (dC, dI) vwCl (wX h qb qj qm qw qr cA (nI (n + 1)) rec lim (upd fb n b) fj fm fw fr) H := hP
          have hD : va_D (va_A (wX h qb qj qm qw qr cA (nI n) rec lim fb fj fm fw fr) s.heap.size) (wX h qb qj qm qw qr cA (nI (n + 1)) rec lim (upd fb n b) fj fm fw fr) := hD
          refine lv_iload_n hx hb dX0_enter_52 rfl (lv_at hl 0 rfl) ?_
          exact q_wi (w1 := (fun (u : Nat × (Nat → Int32)) => wX h qb qj qm qw qr cA (nI u.1) rec lim u.2 fj fm fw fr)) ((n + 1, upd fb n b) : Nat × (Nat → Int32)) hx hb hr hlk hK hP hD hS (by rw [if_pos (by simp [eB, c_1, c_2, c_3, c_4])]; exact ⟨rfl, rfl⟩) dX0_enter_53
        · skip
          have c_4 : (anyB (fun i => decide (fb i = b)) n) = true := b2i_n c_4
          refine lv_sipush (v := (-1000)) hx hb dX0_enter_29 (by decide) ?_
          exact q_wi (w1 := (fun (u : Nat × (Nat → Int32)) => wX h qb qj qm qw qr cA (nI u.1) rec lim u.2 fj fm fw fr)) ((n, fb) : Nat × (Nat → Int32)) hx hb hr hlk hK hP hD hS (by rw [if_neg (by simp [eB, c_1, c_2, c_3, c_4])]; exact ⟨rfl, rfl⟩) dX0_enter_32

theorem hdX0_jump : yX0_jump.cls = RX0 ∧ yX0_jump.cls ≠ "java/lang/invoke/MethodHandle" ∧ yX0_jump.cls ≠ "java/lang/invoke/VarHandle" ∧ (parseMethodDescriptor yX0_jump.desc).map (fun d => d.parameters.length) = some 3 := by decide +kernel
set_option maxHeartbeats 4000000 in
set_option maxRecDepth 100000 in
theorem mX0_jump (l : Launch) (dC : Nat → ClassId) (dI : Nat → Nat → Nat) (h qb qj qm qw qr : Nat) (cA : ClassId) (n : Nat) (rec lim : Int32) (fb fj fm fw fr : Nat → Int32) (sz : Nat) (J : Nat → Nat) (x : Int32) (g : Int32) (w : Int32) (hn : n ≤ 8) (hJ : ∀ j, j < 8 → fj j = nI (J j) ∧ J j ≤ 6) : Met l yX0_jump wsX0_jump ({ frames := 1, cells := 0, slots := 0, locals := 21 }) (va_Pc [.ref h, .int x, .int g, .int w] (qPw (dC, dI) vwCl [(cA, .int)] (wX h qb qj qm qw qr cA (nI n) rec lim fb fj fm fw fr) sz)) (va_Qi (fun (r_ : Int32) (u : (Nat → Int32) × (Nat → Int32) × (Nat → Int32)) => (if kB (nI n) J x g w = true then r_ = nI (J x.toNatClampNeg) ∧ u = (upd fj x.toNatClampNeg (nI (J x.toNatClampNeg + 1)), upd fm (6 * x.toNatClampNeg + J x.toNatClampNeg) g, upd fw (6 * x.toNatClampNeg + J x.toNatClampNeg) w) else r_ = -1000 ∧ u = (fj, fm, fw))) (fun (u : (Nat → Int32) × (Nat → Int32) × (Nat → Int32)) => qBw (dC, dI) vwCl [(cA, .int)] (wX h qb qj qm qw qr cA (nI n) rec lim fb fj fm fw fr) (wX h qb qj qm qw qr cA (nI n) rec lim fb u.1 u.2.1 u.2.2 fr) sz) (va_A (wX h qb qj qm qw qr cA (nI n) rec lim fb fj fm fw fr) sz)) 0 0 (va_A (wX h qb qj qm qw qr cA (nI n) rec lim fb fj fm fw fr) sz) := by
  refine Met.ofW (cc := cX0_jump) (maxL := 5) (ret := (some .int)) (by decide) rfl ?_
  intro p e s m args below meth c s₁ B hml hv
  obtain ⟨rfl, hsz, hP, hK, hD0⟩ := hv
  have hx := B.exec
  have hb := B.bytes
  have hr := B.returns
  have hts := atoms_spec (ws := wsX0_jump) B.pre
  have hown : s.vm.findClass RX0 = some m.cls := findClass_of_methodNamed B.named
  have hlk := B.notSynchronized
  have hin : ∀ w ∈ wsX00, w ∈ wsX0_jump := fun w h => List.mem_cons_of_mem _ (List.mem_append_right _ h)
  have hf_23 := hts (.fieldLink RX0 23 "JumpBoard" "jumped" "[I") (by decide +kernel)
  have hf_26 := hts (.fieldLink RX0 26 "JumpBoard" "marks" "[I") (by decide +kernel)
  have hf_29 := hts (.fieldLink RX0 29 "JumpBoard" "winds" "[I") (by decide +kernel)
  subst hsz
  have hD := hD0.self (sz := s.heap.size)
  have hA : ∀ q : Nat, s.heap.size ≤ q → va_A (wX h qb qj qm qw qr cA (nI n) rec lim fb fj fm fw fr) s.heap.size q := fun q h => Or.inr h
  have hS : va_S (va_A (wX h qb qj qm qw qr cA (nI n) rec lim fb fj fm fw fr) s.heap.size) s.heap s.heap [] := va_S.rf
  have hl := lv_entry ([.ref h, .int x, .int g, .int w]) (n := 5) (Nat.le_of_ble_eq_true rfl)
  rw [lg_entry_eq]
  generalize (lg_sl ([.ref h, .int x, .int g, .int w]) ++ List.replicate (5 - (lg_sl ([.ref h, .int x, .int g, .int w])).length) Slot.unset).toArray = ls at hl ⊢
  have hl : lv_has ls 5 [(0, .ref h), (1, .int x), (2, .int g), (3, .int w)] := hl
  refine lv_aload_n hx hb dX0_jump_0 rfl (lv_at hl 0 rfl) ?_
  refine lv_iload_n hx hb dX0_jump_1 rfl (lv_at hl 1 rfl) ?_
  refine q_cv [.int x] (rest := []) ⟨hx, hb, hml, hown, hts⟩ (mX0_isJumper l dC dI h qb qj qm qw qr cA n rec lim fb fj fm fw fr x) gX0_jump_X0_isJumper rfl rfl rfl hdX0_isJumper ⟨Nat.le_of_ble_eq_true rfl, Nat.le_of_ble_eq_true rfl⟩ rfl hK hP rfl rfl hl.1 rfl (Nat.le_of_ble_eq_true rfl) dX0_jump_2 ⟨Nat.zero_le _, Nat.zero_le _⟩ ?_
  refine lv_if_eq (tgt := 33) hx hb dX0_jump_5 (by decide) (fun c_1 => ?_) (fun c_1 => ?_)
  · skip
    have c_1 : (jmp (nI n) x) = false := b2i_0 c_1
    refine lv_sipush (v := (-1000)) hx hb dX0_jump_33 (by decide) ?_
    exact q_wi (w1 := (fun (u : (Nat → Int32) × (Nat → Int32) × (Nat → Int32)) => wX h qb qj qm qw qr cA (nI n) rec lim fb u.1 u.2.1 u.2.2 fr)) ((fj, fm, fw) : (Nat → Int32) × (Nat → Int32) × (Nat → Int32)) hx hb hr hlk hK hP hD hS (by rw [if_neg (by simp [kB, c_1])]; exact ⟨rfl, rfl⟩) dX0_jump_36
  · skip
    have c_1 : (jmp (nI n) x) = true := b2i_n c_1
    refine lv_iload_n hx hb dX0_jump_8 rfl (lv_at hl 2 rfl) ?_
    refine q_cs [.int g] (rest := []) ⟨hx, hb, hml, hown, hts⟩ (mX0_isMark l g) gX0_jump_X0_isMark rfl rfl rfl hdX0_isMark ⟨Nat.le_of_ble_eq_true rfl, Nat.le_of_ble_eq_true rfl⟩ rfl hl.1 rfl (Nat.le_of_ble_eq_true rfl) dX0_jump_9 ⟨Nat.zero_le _, Nat.zero_le _⟩ ?_
    refine lv_if_eq (tgt := 33) hx hb dX0_jump_12 (by decide) (fun c_2 => ?_) (fun c_2 => ?_)
    · skip
      have c_2 : (mrk g) = false := b2i_0 c_2
      refine lv_sipush (v := (-1000)) hx hb dX0_jump_33 (by decide) ?_
      exact q_wi (w1 := (fun (u : (Nat → Int32) × (Nat → Int32) × (Nat → Int32)) => wX h qb qj qm qw qr cA (nI n) rec lim fb u.1 u.2.1 u.2.2 fr)) ((fj, fm, fw) : (Nat → Int32) × (Nat → Int32) × (Nat → Int32)) hx hb hr hlk hK hP hD hS (by rw [if_neg (by simp [kB, c_1, c_2])]; exact ⟨rfl, rfl⟩) dX0_jump_36
    · skip
      have c_2 : (mrk g) = true := b2i_n c_2
      refine lv_iload_n hx hb dX0_jump_15 rfl (lv_at hl 3 rfl) ?_
      refine q_cs [.int w] (rest := []) ⟨hx, hb, hml, hown, hts⟩ (mX0_isWind l w) gX0_jump_X0_isWind rfl rfl rfl hdX0_isWind ⟨Nat.le_of_ble_eq_true rfl, Nat.le_of_ble_eq_true rfl⟩ rfl hl.1 rfl (Nat.le_of_ble_eq_true rfl) dX0_jump_16 ⟨Nat.zero_le _, Nat.zero_le _⟩ ?_
      refine lv_if_eq (tgt := 33) hx hb dX0_jump_19 (by decide) (fun c_3 => ?_) (fun c_3 => ?_)
      · skip
        have c_3 : (wnd w) = false := b2i_0 c_3
        refine lv_sipush (v := (-1000)) hx hb dX0_jump_33 (by decide) ?_
        exact q_wi (w1 := (fun (u : (Nat → Int32) × (Nat → Int32) × (Nat → Int32)) => wX h qb qj qm qw qr cA (nI n) rec lim fb u.1 u.2.1 u.2.2 fr)) ((fj, fm, fw) : (Nat → Int32) × (Nat → Int32) × (Nat → Int32)) hx hb hr hlk hK hP hD hS (by rw [if_neg (by simp [kB, c_1, c_2, c_3])]; exact ⟨rfl, rfl⟩) dX0_jump_36
      · skip
        have c_3 : (wnd w) = true := b2i_n c_3
        obtain ⟨j, hj, rfl⟩ := jmp_of c_1 hn
        refine lv_aload_n hx hb dX0_jump_22 rfl (lv_at hl 0 rfl) ?_
        refine va_get (D := (dC, dI)) (ci := 0) (v := .ref qj) (C := RX0) (T := TX0) (N := 8) hx hb hts hin hown hK hP 0 rfl rfl 4 (by decide) hf_23 (fun _ h9 => h9) rfl dX0_jump_23 ?_
        refine lv_iload_n hx hb dX0_jump_26 rfl (lv_at hl 1 rfl) ?_
        refine q_ald (n := 8) (k := j) hx hb hK hP 2 0 rfl rfl (by omega) (by decide) dX0_jump_27 ?_
        refine q_top (y := nI (J j)) (by exact (hJ j (by omega)).1) ?_
        refine lv_bipush (v := 6) hx hb dX0_jump_28 (by decide) ?_
        refine lv_icmp_lt (tgt := 37) hx hb dX0_jump_30 (by decide) (fun c_4 => ?_) (fun c_4 => ?_)
        · skip
          have hj6 : J j < 6 := (nI_ltI (b := 6) (by have := (hJ j (by omega)).2; omega) (by decide)).mp c_4
          refine lv_aload_n hx hb dX0_jump_37 rfl (lv_at hl 0 rfl) ?_
          refine va_get (D := (dC, dI)) (ci := 0) (v := .ref qj) (C := RX0) (T := TX0) (N := 8) hx hb hts hin hown hK hP 0 rfl rfl 4 (by decide) hf_23 (fun _ h9 => h9) rfl dX0_jump_38 ?_
          refine lv_iload_n hx hb dX0_jump_41 rfl (lv_at hl 1 rfl) ?_
          refine q_ald (n := 8) (k := j) hx hb hK hP 2 0 rfl rfl (by omega) (by decide) dX0_jump_42 ?_
          refine q_top (y := nI (J j)) (by exact (hJ j (by omega)).1) ?_
          refine lv_istore (lv' := [(4, .int (nI (J j))), (0, .ref h), (1, .int (nI j)), (2, .int g), (3, .int w)]) hx hb dX0_jump_43 hl (by decide) rfl (fun ls hl => ?_)
          refine lv_aload_n hx hb dX0_jump_45 rfl (lv_at hl 1 rfl) ?_
          refine va_get (D := (dC, dI)) (ci := 0) (v := .ref qm) (C := RX0) (T := TX0) (N := 8) hx hb hts hin hown hK hP 0 rfl rfl 5 (by decide) hf_26 (fun _ h9 => h9) rfl dX0_jump_46 ?_
          refine lv_iload_n hx hb dX0_jump_49 rfl (lv_at hl 2 rfl) ?_
          refine lv_iload hx hb dX0_jump_50 (lv_at hl 0 rfl) ?_
          refine q_cs [.int (nI j), .int (nI (J j))] (rest := [.ref qm]) ⟨hx, hb, hml, hown, hts⟩ (mX0_at l j (J j)) gX0_jump_X0_at rfl rfl rfl hdX0_at ⟨Nat.le_of_ble_eq_true rfl, Nat.le_of_ble_eq_true rfl⟩ rfl hl.1 rfl (Nat.le_of_ble_eq_true rfl) dX0_jump_52 ⟨Nat.zero_le _, Nat.zero_le _⟩ ?_
          refine lv_iload_n hx hb dX0_jump_55 rfl (lv_at hl 3 rfl) ?_
          refine q_ast (n := 48) (k := (6 * j + (J j))) hx hb hK hP hD hS 3 0 rfl rfl (by omega) (by decide) dX0_jump_56 (fun H locs hP hD hS => ?_)
          have hP : va_P (dC, dI) vwCl (wX h qb qj qm qw qr cA (nI n) rec lim fb fj (upd fm (6 * j + (J j)) g) fw fr) H := hP
          have hD : va_D (va_A (wX h qb qj qm qw qr cA (nI n) rec lim fb fj fm fw fr) s.heap.size) (wX h qb qj qm qw qr cA (nI n) rec lim fb fj (upd fm (6 * j + (J j)) g) fw fr) := hD
          refine lv_aload_n hx hb dX0_jump_57 rfl (lv_at hl 1 rfl) ?_
          refine va_get (D := (dC, dI)) (ci := 0) (v := .ref qw) (C := RX0) (T := TX0) (N := 8) hx hb hts hin hown hK hP 0 rfl rfl 6 (by decide) hf_29 (fun _ h9 => h9) rfl dX0_jump_58 ?_
          refine lv_iload_n hx hb dX0_jump_61 rfl (lv_at hl 2 rfl) ?_
          refine lv_iload hx hb dX0_jump_62 (lv_at hl 0 rfl) ?_
          refine q_cs [.int (nI j), .int (nI (J j))] (rest := [.ref qw]) ⟨hx, hb, hml, hown, hts⟩ (mX0_at l j (J j)) gX0_jump_X0_at rfl rfl rfl hdX0_at ⟨Nat.le_of_ble_eq_true rfl, Nat.le_of_ble_eq_true rfl⟩ rfl hl.1 rfl (Nat.le_of_ble_eq_true rfl) dX0_jump_64 ⟨Nat.zero_le _, Nat.zero_le _⟩ ?_
          refine lv_iload_n hx hb dX0_jump_67 rfl (lv_at hl 4 rfl) ?_
          refine q_ast (n := 48) (k := (6 * j + (J j))) hx hb hK hP hD hS 4 0 rfl rfl (by omega) (by decide) dX0_jump_68 (fun H locs hP hD hS => ?_)
          have hP : va_P (dC, dI) vwCl (wX h qb qj qm qw qr cA (nI n) rec lim fb fj (upd fm (6 * j + (J j)) g) (upd fw (6 * j + (J j)) w) fr) H := hP
          have hD : va_D (va_A (wX h qb qj qm qw qr cA (nI n) rec lim fb fj fm fw fr) s.heap.size) (wX h qb qj qm qw qr cA (nI n) rec lim fb fj (upd fm (6 * j + (J j)) g) (upd fw (6 * j + (J j)) w) fr) := hD
          refine lv_aload_n hx hb dX0_jump_69 rfl (lv_at hl 1 rfl) ?_
          refine va_get (D := (dC, dI)) (ci := 0) (v := .ref qj) (C := RX0) (T := TX0) (N := 8) hx hb hts hin hown hK hP 0 rfl rfl 4 (by decide) hf_23 (fun _ h9 => h9) rfl dX0_jump_70 ?_
          refine lv_iload_n hx hb dX0_jump_73 rfl (lv_at hl 2 rfl) ?_
          refine lv_iload hx hb dX0_jump_74 (lv_at hl 0 rfl) ?_
          refine lv_iconst (v := 1) hx hb dX0_jump_76 (by decide) ?_
          refine lv_iadd hx hb dX0_jump_77 ?_
          refine q_top (y := nI (J j + 1)) (by exact nI_1 _) ?_
          refine q_ast (n := 8) (k := j) hx hb hK hP hD hS 2 0 rfl rfl (by omega) (by decide) dX0_jump_78 (fun H locs hP hD hS => ?_)
          have hP : va_P (dC, dI) vwCl (wX h qb qj qm qw qr cA (nI n) rec lim fb (upd fj j (nI (J j + 1))) (upd fm (6 * j + (J j)) g) (upd fw (6 * j + (J j)) w) fr) H := hP
          have hD : va_D (va_A (wX h qb qj qm qw qr cA (nI n) rec lim fb fj fm fw fr) s.heap.size) (wX h qb qj qm qw qr cA (nI n) rec lim fb (upd fj j (nI (J j + 1))) (upd fm (6 * j + (J j)) g) (upd fw (6 * j + (J j)) w) fr) := hD
          refine lv_iload hx hb dX0_jump_79 (lv_at hl 0 rfl) ?_
          exact q_wi (w1 := (fun (u : (Nat → Int32) × (Nat → Int32) × (Nat → Int32)) => wX h qb qj qm qw qr cA (nI n) rec lim fb u.1 u.2.1 u.2.2 fr)) (((upd fj j (nI (J j + 1))), (upd fm (6 * j + (J j)) g), (upd fw (6 * j + (J j)) w)) : (Nat → Int32) × (Nat → Int32) × (Nat → Int32)) hx hb hr hlk hK hP hD hS (by rw [nI_clamp (by omega), if_pos (by rw [kB, nI_clamp (by omega)]; simp [c_1, c_2, c_3, hj6])]; exact ⟨rfl, rfl⟩) dX0_jump_81
        · skip
          refine lv_sipush (v := (-1000)) hx hb dX0_jump_33 (by decide) ?_
          exact q_wi (w1 := (fun (u : (Nat → Int32) × (Nat → Int32) × (Nat → Int32)) => wX h qb qj qm qw qr cA (nI n) rec lim fb u.1 u.2.1 u.2.2 fr)) ((fj, fm, fw) : (Nat → Int32) × (Nat → Int32) × (Nat → Int32)) hx hb hr hlk hK hP hD hS (by rw [if_neg (by rw [kB, nI_clamp (by omega)]; simp [c_1, c_2, c_3]; exact Nat.not_lt.mp (fun q => c_4 (nI_lt (b := 6) q (by decide))))]; exact ⟨rfl, rfl⟩) dX0_jump_36

theorem hdX0_undo : yX0_undo.cls = RX0 ∧ yX0_undo.cls ≠ "java/lang/invoke/MethodHandle" ∧ yX0_undo.cls ≠ "java/lang/invoke/VarHandle" ∧ (parseMethodDescriptor yX0_undo.desc).map (fun d => d.parameters.length) = some 1 := by decide +kernel
set_option maxHeartbeats 4000000 in
set_option maxRecDepth 100000 in
theorem mX0_undo (l : Launch) (dC : Nat → ClassId) (dI : Nat → Nat → Nat) (h qb qj qm qw qr : Nat) (cA : ClassId) (n : Nat) (rec lim : Int32) (fb fj fm fw fr : Nat → Int32) (sz : Nat) (J : Nat → Nat) (x : Int32) (hn : n ≤ 8) (hJ : ∀ j, j < 8 → fj j = nI (J j) ∧ J j ≤ 6) : Met l yX0_undo wsX0_undo ({ frames := 1, cells := 0, slots := 0, locals := 21 }) (va_Pc [.ref h, .int x] (qPw (dC, dI) vwCl [(cA, .int)] (wX h qb qj qm qw qr cA (nI n) rec lim fb fj fm fw fr) sz)) (va_Qi (fun (r_ : Int32) (u : (Nat → Int32) × (Nat → Int32) × (Nat → Int32)) => (if uB (nI n) J x = true then r_ = nI (J x.toNatClampNeg - 1) ∧ u = (upd fj x.toNatClampNeg (nI (J x.toNatClampNeg - 1)), upd fm (6 * x.toNatClampNeg + (J x.toNatClampNeg - 1)) 0, upd fw (6 * x.toNatClampNeg + (J x.toNatClampNeg - 1)) 100) else r_ = -1000 ∧ u = (fj, fm, fw))) (fun (u : (Nat → Int32) × (Nat → Int32) × (Nat → Int32)) => qBw (dC, dI) vwCl [(cA, .int)] (wX h qb qj qm qw qr cA (nI n) rec lim fb fj fm fw fr) (wX h qb qj qm qw qr cA (nI n) rec lim fb u.1 u.2.1 u.2.2 fr) sz) (va_A (wX h qb qj qm qw qr cA (nI n) rec lim fb fj fm fw fr) sz)) 0 0 (va_A (wX h qb qj qm qw qr cA (nI n) rec lim fb fj fm fw fr) sz) := by
  refine Met.ofW (cc := cX0_undo) (maxL := 3) (ret := (some .int)) (by decide) rfl ?_
  intro p e s m args below meth c s₁ B hml hv
  obtain ⟨rfl, hsz, hP, hK, hD0⟩ := hv
  have hx := B.exec
  have hb := B.bytes
  have hr := B.returns
  have hts := atoms_spec (ws := wsX0_undo) B.pre
  have hown : s.vm.findClass RX0 = some m.cls := findClass_of_methodNamed B.named
  have hlk := B.notSynchronized
  have hin : ∀ w ∈ wsX00, w ∈ wsX0_undo := fun w h => List.mem_cons_of_mem _ (List.mem_append_right _ h)
  have hf_23 := hts (.fieldLink RX0 23 "JumpBoard" "jumped" "[I") (by decide +kernel)
  have hf_26 := hts (.fieldLink RX0 26 "JumpBoard" "marks" "[I") (by decide +kernel)
  have hf_29 := hts (.fieldLink RX0 29 "JumpBoard" "winds" "[I") (by decide +kernel)
  subst hsz
  have hD := hD0.self (sz := s.heap.size)
  have hA : ∀ q : Nat, s.heap.size ≤ q → va_A (wX h qb qj qm qw qr cA (nI n) rec lim fb fj fm fw fr) s.heap.size q := fun q h => Or.inr h
  have hS : va_S (va_A (wX h qb qj qm qw qr cA (nI n) rec lim fb fj fm fw fr) s.heap.size) s.heap s.heap [] := va_S.rf
  have hl := lv_entry ([.ref h, .int x]) (n := 3) (Nat.le_of_ble_eq_true rfl)
  rw [lg_entry_eq]
  generalize (lg_sl ([.ref h, .int x]) ++ List.replicate (3 - (lg_sl ([.ref h, .int x])).length) Slot.unset).toArray = ls at hl ⊢
  have hl : lv_has ls 3 [(0, .ref h), (1, .int x)] := hl
  refine lv_aload_n hx hb dX0_undo_0 rfl (lv_at hl 0 rfl) ?_
  refine lv_iload_n hx hb dX0_undo_1 rfl (lv_at hl 1 rfl) ?_
  refine q_cv [.int x] (rest := []) ⟨hx, hb, hml, hown, hts⟩ (mX0_isJumper l dC dI h qb qj qm qw qr cA n rec lim fb fj fm fw fr x) gX0_undo_X0_isJumper rfl rfl rfl hdX0_isJumper ⟨Nat.le_of_ble_eq_true rfl, Nat.le_of_ble_eq_true rfl⟩ rfl hK hP rfl rfl hl.1 rfl (Nat.le_of_ble_eq_true rfl) dX0_undo_2 ⟨Nat.zero_le _, Nat.zero_le _⟩ ?_
  refine lv_if_eq (tgt := 17) hx hb dX0_undo_5 (by decide) (fun c_1 => ?_) (fun c_1 => ?_)
  · skip
    have c_1 : (jmp (nI n) x) = false := b2i_0 c_1
    refine lv_sipush (v := (-1000)) hx hb dX0_undo_17 (by decide) ?_
    exact q_wi (w1 := (fun (u : (Nat → Int32) × (Nat → Int32) × (Nat → Int32)) => wX h qb qj qm qw qr cA (nI n) rec lim fb u.1 u.2.1 u.2.2 fr)) ((fj, fm, fw) : (Nat → Int32) × (Nat → Int32) × (Nat → Int32)) hx hb hr hlk hK hP hD hS (by rw [if_neg (by simp [uB, c_1])]; exact ⟨rfl, rfl⟩) dX0_undo_20
  · skip
    have c_1 : (jmp (nI n) x) = true := b2i_n c_1
    obtain ⟨j, hj, rfl⟩ := jmp_of c_1 hn
    refine lv_aload_n hx hb dX0_undo_8 rfl (lv_at hl 0 rfl) ?_
    refine va_get (D := (dC, dI)) (ci := 0) (v := .ref qj) (C := RX0) (T := TX0) (N := 8) hx hb hts hin hown hK hP 0 rfl rfl 4 (by decide) hf_23 (fun _ h9 => h9) rfl dX0_undo_9 ?_
    refine lv_iload_n hx hb dX0_undo_12 rfl (lv_at hl 1 rfl) ?_
    refine q_ald (n := 8) (k := j) hx hb hK hP 2 0 rfl rfl (by omega) (by decide) dX0_undo_13 ?_
    refine q_top (y := nI (J j)) (by exact (hJ j (by omega)).1) ?_
    refine lv_if_gt (tgt := 21) hx hb dX0_undo_14 (by decide) (fun c_2 => ?_) (fun c_2 => ?_)
    · skip
      have hj0 : 0 < J j := Nat.pos_of_ne_zero (fun q => by rw [q] at c_2; exact absurd c_2 (by decide))
      have hj6 := (hJ j (by omega)).2
      refine lv_aload_n hx hb dX0_undo_21 rfl (lv_at hl 0 rfl) ?_
      refine va_get (D := (dC, dI)) (ci := 0) (v := .ref qj) (C := RX0) (T := TX0) (N := 8) hx hb hts hin hown hK hP 0 rfl rfl 4 (by decide) hf_23 (fun _ h9 => h9) rfl dX0_undo_22 ?_
      refine lv_iload_n hx hb dX0_undo_25 rfl (lv_at hl 1 rfl) ?_
      refine q_ald (n := 8) (k := j) hx hb hK hP 2 0 rfl rfl (by omega) (by decide) dX0_undo_26 ?_
      refine q_top (y := nI (J j)) (by exact (hJ j (by omega)).1) ?_
      refine lv_iconst (v := 1) hx hb dX0_undo_27 (by decide) ?_
      refine lv_isub hx hb dX0_undo_28 ?_
      refine q_top (y := nI (J j - 1)) (by exact pk_sub (b := 1) hj0) ?_
      refine lv_istore_n (lv' := [(2, .int (nI (J j - 1))), (0, .ref h), (1, .int (nI j))]) hx hb dX0_undo_29 rfl hl (by decide) rfl (fun ls hl => ?_)
      refine lv_aload_n hx hb dX0_undo_30 rfl (lv_at hl 1 rfl) ?_
      refine va_get (D := (dC, dI)) (ci := 0) (v := .ref qm) (C := RX0) (T := TX0) (N := 8) hx hb hts hin hown hK hP 0 rfl rfl 5 (by decide) hf_26 (fun _ h9 => h9) rfl dX0_undo_31 ?_
      refine lv_iload_n hx hb dX0_undo_34 rfl (lv_at hl 2 rfl) ?_
      refine lv_iload_n hx hb dX0_undo_35 rfl (lv_at hl 0 rfl) ?_
      refine q_cs [.int (nI j), .int (nI (J j - 1))] (rest := [.ref qm]) ⟨hx, hb, hml, hown, hts⟩ (mX0_at l j (J j - 1)) gX0_undo_X0_at rfl rfl rfl hdX0_at ⟨Nat.le_of_ble_eq_true rfl, Nat.le_of_ble_eq_true rfl⟩ rfl hl.1 rfl (Nat.le_of_ble_eq_true rfl) dX0_undo_36 ⟨Nat.zero_le _, Nat.zero_le _⟩ ?_
      refine lv_iconst (v := 0) hx hb dX0_undo_39 (by decide) ?_
      refine q_ast (n := 48) (k := (6 * j + (J j - 1))) hx hb hK hP hD hS 3 0 rfl rfl (by omega) (by decide) dX0_undo_40 (fun H locs hP hD hS => ?_)
      have hP : va_P (dC, dI) vwCl (wX h qb qj qm qw qr cA (nI n) rec lim fb fj (upd fm (6 * j + (J j - 1)) 0) fw fr) H := hP
      have hD : va_D (va_A (wX h qb qj qm qw qr cA (nI n) rec lim fb fj fm fw fr) s.heap.size) (wX h qb qj qm qw qr cA (nI n) rec lim fb fj (upd fm (6 * j + (J j - 1)) 0) fw fr) := hD
      refine lv_aload_n hx hb dX0_undo_41 rfl (lv_at hl 1 rfl) ?_
      refine va_get (D := (dC, dI)) (ci := 0) (v := .ref qw) (C := RX0) (T := TX0) (N := 8) hx hb hts hin hown hK hP 0 rfl rfl 6 (by decide) hf_29 (fun _ h9 => h9) rfl dX0_undo_42 ?_
      refine lv_iload_n hx hb dX0_undo_45 rfl (lv_at hl 2 rfl) ?_
      refine lv_iload_n hx hb dX0_undo_46 rfl (lv_at hl 0 rfl) ?_
      refine q_cs [.int (nI j), .int (nI (J j - 1))] (rest := [.ref qw]) ⟨hx, hb, hml, hown, hts⟩ (mX0_at l j (J j - 1)) gX0_undo_X0_at rfl rfl rfl hdX0_at ⟨Nat.le_of_ble_eq_true rfl, Nat.le_of_ble_eq_true rfl⟩ rfl hl.1 rfl (Nat.le_of_ble_eq_true rfl) dX0_undo_47 ⟨Nat.zero_le _, Nat.zero_le _⟩ ?_
      refine lv_bipush (v := 100) hx hb dX0_undo_50 (by decide) ?_
      refine q_ast (n := 48) (k := (6 * j + (J j - 1))) hx hb hK hP hD hS 4 0 rfl rfl (by omega) (by decide) dX0_undo_52 (fun H locs hP hD hS => ?_)
      have hP : va_P (dC, dI) vwCl (wX h qb qj qm qw qr cA (nI n) rec lim fb fj (upd fm (6 * j + (J j - 1)) 0) (upd fw (6 * j + (J j - 1)) 100) fr) H := hP
      have hD : va_D (va_A (wX h qb qj qm qw qr cA (nI n) rec lim fb fj fm fw fr) s.heap.size) (wX h qb qj qm qw qr cA (nI n) rec lim fb fj (upd fm (6 * j + (J j - 1)) 0) (upd fw (6 * j + (J j - 1)) 100) fr) := hD
      refine lv_aload_n hx hb dX0_undo_53 rfl (lv_at hl 1 rfl) ?_
      refine va_get (D := (dC, dI)) (ci := 0) (v := .ref qj) (C := RX0) (T := TX0) (N := 8) hx hb hts hin hown hK hP 0 rfl rfl 4 (by decide) hf_23 (fun _ h9 => h9) rfl dX0_undo_54 ?_
      refine lv_iload_n hx hb dX0_undo_57 rfl (lv_at hl 2 rfl) ?_
      refine lv_iload_n hx hb dX0_undo_58 rfl (lv_at hl 0 rfl) ?_
      refine q_ast (n := 8) (k := j) hx hb hK hP hD hS 2 0 rfl rfl (by omega) (by decide) dX0_undo_59 (fun H locs hP hD hS => ?_)
      have hP : va_P (dC, dI) vwCl (wX h qb qj qm qw qr cA (nI n) rec lim fb (upd fj j (nI (J j - 1))) (upd fm (6 * j + (J j - 1)) 0) (upd fw (6 * j + (J j - 1)) 100) fr) H := hP
      have hD : va_D (va_A (wX h qb qj qm qw qr cA (nI n) rec lim fb fj fm fw fr) s.heap.size) (wX h qb qj qm qw qr cA (nI n) rec lim fb (upd fj j (nI (J j - 1))) (upd fm (6 * j + (J j - 1)) 0) (upd fw (6 * j + (J j - 1)) 100) fr) := hD
      refine lv_iload_n hx hb dX0_undo_60 rfl (lv_at hl 0 rfl) ?_
      exact q_wi (w1 := (fun (u : (Nat → Int32) × (Nat → Int32) × (Nat → Int32)) => wX h qb qj qm qw qr cA (nI n) rec lim fb u.1 u.2.1 u.2.2 fr)) (((upd fj j (nI (J j - 1))), (upd fm (6 * j + (J j - 1)) 0), (upd fw (6 * j + (J j - 1)) 100)) : (Nat → Int32) × (Nat → Int32) × (Nat → Int32)) hx hb hr hlk hK hP hD hS (by rw [nI_clamp (by omega), if_pos (by rw [uB, nI_clamp (by omega)]; simp [c_1, hj0])]; exact ⟨rfl, rfl⟩) dX0_undo_61
    · skip
      refine lv_sipush (v := (-1000)) hx hb dX0_undo_17 (by decide) ?_
      exact q_wi (w1 := (fun (u : (Nat → Int32) × (Nat → Int32) × (Nat → Int32)) => wX h qb qj qm qw qr cA (nI n) rec lim fb u.1 u.2.1 u.2.2 fr)) ((fj, fm, fw) : (Nat → Int32) × (Nat → Int32) × (Nat → Int32)) hx hb hr hlk hK hP hD hS (by rw [if_neg (by rw [uB, nI_clamp (by omega)]; simp [c_1]; exact Nat.eq_zero_of_not_pos (fun q => c_2 (nI_lt (a := 0) q (by have := (hJ j (by omega)).2; omega))))]; exact ⟨rfl, rfl⟩) dX0_undo_20

theorem hdX0_record : yX0_record.cls = RX0 ∧ yX0_record.cls ≠ "java/lang/invoke/MethodHandle" ∧ yX0_record.cls ≠ "java/lang/invoke/VarHandle" ∧ (parseMethodDescriptor yX0_record.desc).map (fun d => d.parameters.length) = some 1 := by decide +kernel
set_option maxHeartbeats 4000000 in
set_option maxRecDepth 100000 in
theorem mX0_record (l : Launch) (dC : Nat → ClassId) (dI : Nat → Nat → Nat) (h qb qj qm qw qr : Nat) (cA : ClassId) (n : Nat) (rec lim : Int32) (fb fj fm fw fr : Nat → Int32) (sz : Nat) (g : Int32) : Met l yX0_record wsX0_record ({ frames := 1, cells := 0, slots := 0, locals := 20 }) (va_Pc [.ref h, .int g] (qPw (dC, dI) vwCl [(cA, .int)] (wX h qb qj qm qw qr cA (nI n) rec lim fb fj fm fw fr) sz)) (va_Qi (fun (r_ : Int32) (u : Int32) => (if mrk g = true then r_ = rec ∧ u = g else r_ = -1000 ∧ u = rec)) (fun (u : Int32) => qBw (dC, dI) vwCl [(cA, .int)] (wX h qb qj qm qw qr cA (nI n) rec lim fb fj fm fw fr) (wX h qb qj qm qw qr cA (nI n) u lim fb fj fm fw fr) sz) (va_A (wX h qb qj qm qw qr cA (nI n) rec lim fb fj fm fw fr) sz)) 0 0 (va_A (wX h qb qj qm qw qr cA (nI n) rec lim fb fj fm fw fr) sz) := by
  refine Met.ofW (cc := cX0_record) (maxL := 3) (ret := (some .int)) (by decide) rfl ?_
  intro p e s m args below meth c s₁ B hml hv
  obtain ⟨rfl, hsz, hP, hK, hD0⟩ := hv
  have hx := B.exec
  have hb := B.bytes
  have hr := B.returns
  have hts := atoms_spec (ws := wsX0_record) B.pre
  have hown : s.vm.findClass RX0 = some m.cls := findClass_of_methodNamed B.named
  have hlk := B.notSynchronized
  have hin : ∀ w ∈ wsX00, w ∈ wsX0_record := fun w h => List.mem_cons_of_mem _ (List.mem_append_right _ h)
  have hf_13 := hts (.fieldLink RX0 13 "JumpBoard" "recordMark" "I") (by decide +kernel)
  subst hsz
  have hD := hD0.self (sz := s.heap.size)
  have hA : ∀ q : Nat, s.heap.size ≤ q → va_A (wX h qb qj qm qw qr cA (nI n) rec lim fb fj fm fw fr) s.heap.size q := fun q h => Or.inr h
  have hS : va_S (va_A (wX h qb qj qm qw qr cA (nI n) rec lim fb fj fm fw fr) s.heap.size) s.heap s.heap [] := va_S.rf
  have hl := lv_entry ([.ref h, .int g]) (n := 3) (Nat.le_of_ble_eq_true rfl)
  rw [lg_entry_eq]
  generalize (lg_sl ([.ref h, .int g]) ++ List.replicate (3 - (lg_sl ([.ref h, .int g])).length) Slot.unset).toArray = ls at hl ⊢
  have hl : lv_has ls 3 [(0, .ref h), (1, .int g)] := hl
  refine lv_iload_n hx hb dX0_record_0 rfl (lv_at hl 1 rfl) ?_
  refine q_cs [.int g] (rest := []) ⟨hx, hb, hml, hown, hts⟩ (mX0_isMark l g) gX0_record_X0_isMark rfl rfl rfl hdX0_isMark ⟨Nat.le_of_ble_eq_true rfl, Nat.le_of_ble_eq_true rfl⟩ rfl hl.1 rfl (Nat.le_of_ble_eq_true rfl) dX0_record_1 ⟨Nat.zero_le _, Nat.zero_le _⟩ ?_
  refine lv_if_ne (tgt := 11) hx hb dX0_record_4 (by decide) (fun c_1 => ?_) (fun c_1 => ?_)
  · skip
    have c_1 : (mrk g) = true := b2i_n c_1
    refine lv_aload_n hx hb dX0_record_11 rfl (lv_at hl 0 rfl) ?_
    refine va_get (D := (dC, dI)) (ci := 0) (v := .int rec) (C := RX0) (T := TX0) (N := 8) hx hb hts hin hown hK hP 0 rfl rfl 1 (by decide) hf_13 (fun _ h9 => h9) rfl dX0_record_12 ?_
    refine lv_istore_n (lv' := [(2, .int rec), (0, .ref h), (1, .int g)]) hx hb dX0_record_15 rfl hl (by decide) rfl (fun ls hl => ?_)
    refine lv_aload_n hx hb dX0_record_16 rfl (lv_at hl 1 rfl) ?_
    refine lv_iload_n hx hb dX0_record_17 rfl (lv_at hl 2 rfl) ?_
    refine va_put (D := (dC, dI)) (ci := 0) (v := .int g) (ty := .int) (C := RX0) (T := TX0) (N := 8) hx hb hts hin tyX0 tyX0_ok nmX0 hown hK hP hD hS 0 rfl rfl 1 (by decide) hf_13 (fun _ h9 => h9) rfl (by decide +kernel) rfl rfl (Nat.le_of_ble_eq_true rfl) dX0_record_18 (fun H locs hP hD hS => ?_)
    have hP : va_P (dC, dI) vwCl (wX h qb qj qm qw qr cA (nI n) g lim fb fj fm fw fr) H := hP
    have hD : va_D (va_A (wX h qb qj qm qw qr cA (nI n) rec lim fb fj fm fw fr) s.heap.size) (wX h qb qj qm qw qr cA (nI n) g lim fb fj fm fw fr) := hD
    refine lv_iload_n hx hb dX0_record_21 rfl (lv_at hl 0 rfl) ?_
    exact q_wi (w1 := (fun (u : Int32) => wX h qb qj qm qw qr cA (nI n) u lim fb fj fm fw fr)) g hx hb hr hlk hK hP hD hS (by rw [if_pos (by simp [c_1])]; exact ⟨rfl, rfl⟩) dX0_record_22
  · skip
    have c_1 : (mrk g) = false := b2i_0 c_1
    refine lv_sipush (v := (-1000)) hx hb dX0_record_7 (by decide) ?_
    exact q_wi (w1 := (fun (u : Int32) => wX h qb qj qm qw qr cA (nI n) u lim fb fj fm fw fr)) rec hx hb hr hlk hK hP hD hS (by rw [if_neg (by simp [c_1])]; exact ⟨rfl, rfl⟩) dX0_record_10

theorem hdX0_limit : yX0_limit.cls = RX0 ∧ yX0_limit.cls ≠ "java/lang/invoke/MethodHandle" ∧ yX0_limit.cls ≠ "java/lang/invoke/VarHandle" ∧ (parseMethodDescriptor yX0_limit.desc).map (fun d => d.parameters.length) = some 1 := by decide +kernel
set_option maxHeartbeats 4000000 in
set_option maxRecDepth 100000 in
theorem mX0_limit (l : Launch) (dC : Nat → ClassId) (dI : Nat → Nat → Nat) (h qb qj qm qw qr : Nat) (cA : ClassId) (n : Nat) (rec lim : Int32) (fb fj fm fw fr : Nat → Int32) (sz : Nat) (g : Int32) : Met l yX0_limit wsX0_limit ({ frames := 1, cells := 0, slots := 0, locals := 20 }) (va_Pc [.ref h, .int g] (qPw (dC, dI) vwCl [(cA, .int)] (wX h qb qj qm qw qr cA (nI n) rec lim fb fj fm fw fr) sz)) (va_Qi (fun (r_ : Int32) (u : Int32) => (if wnd g = true then r_ = lim ∧ u = g else r_ = -1000 ∧ u = lim)) (fun (u : Int32) => qBw (dC, dI) vwCl [(cA, .int)] (wX h qb qj qm qw qr cA (nI n) rec lim fb fj fm fw fr) (wX h qb qj qm qw qr cA (nI n) rec u fb fj fm fw fr) sz) (va_A (wX h qb qj qm qw qr cA (nI n) rec lim fb fj fm fw fr) sz)) 0 0 (va_A (wX h qb qj qm qw qr cA (nI n) rec lim fb fj fm fw fr) sz) := by
  refine Met.ofW (cc := cX0_limit) (maxL := 3) (ret := (some .int)) (by decide) rfl ?_
  intro p e s m args below meth c s₁ B hml hv
  obtain ⟨rfl, hsz, hP, hK, hD0⟩ := hv
  have hx := B.exec
  have hb := B.bytes
  have hr := B.returns
  have hts := atoms_spec (ws := wsX0_limit) B.pre
  have hown : s.vm.findClass RX0 = some m.cls := findClass_of_methodNamed B.named
  have hlk := B.notSynchronized
  have hin : ∀ w ∈ wsX00, w ∈ wsX0_limit := fun w h => List.mem_cons_of_mem _ (List.mem_append_right _ h)
  have hf_16 := hts (.fieldLink RX0 16 "JumpBoard" "limitWind" "I") (by decide +kernel)
  subst hsz
  have hD := hD0.self (sz := s.heap.size)
  have hA : ∀ q : Nat, s.heap.size ≤ q → va_A (wX h qb qj qm qw qr cA (nI n) rec lim fb fj fm fw fr) s.heap.size q := fun q h => Or.inr h
  have hS : va_S (va_A (wX h qb qj qm qw qr cA (nI n) rec lim fb fj fm fw fr) s.heap.size) s.heap s.heap [] := va_S.rf
  have hl := lv_entry ([.ref h, .int g]) (n := 3) (Nat.le_of_ble_eq_true rfl)
  rw [lg_entry_eq]
  generalize (lg_sl ([.ref h, .int g]) ++ List.replicate (3 - (lg_sl ([.ref h, .int g])).length) Slot.unset).toArray = ls at hl ⊢
  have hl : lv_has ls 3 [(0, .ref h), (1, .int g)] := hl
  refine lv_iload_n hx hb dX0_limit_0 rfl (lv_at hl 1 rfl) ?_
  refine q_cs [.int g] (rest := []) ⟨hx, hb, hml, hown, hts⟩ (mX0_isWind l g) gX0_limit_X0_isWind rfl rfl rfl hdX0_isWind ⟨Nat.le_of_ble_eq_true rfl, Nat.le_of_ble_eq_true rfl⟩ rfl hl.1 rfl (Nat.le_of_ble_eq_true rfl) dX0_limit_1 ⟨Nat.zero_le _, Nat.zero_le _⟩ ?_
  refine lv_if_ne (tgt := 11) hx hb dX0_limit_4 (by decide) (fun c_1 => ?_) (fun c_1 => ?_)
  · skip
    have c_1 : (wnd g) = true := b2i_n c_1
    refine lv_aload_n hx hb dX0_limit_11 rfl (lv_at hl 0 rfl) ?_
    refine va_get (D := (dC, dI)) (ci := 0) (v := .int lim) (C := RX0) (T := TX0) (N := 8) hx hb hts hin hown hK hP 0 rfl rfl 2 (by decide) hf_16 (fun _ h9 => h9) rfl dX0_limit_12 ?_
    refine lv_istore_n (lv' := [(2, .int lim), (0, .ref h), (1, .int g)]) hx hb dX0_limit_15 rfl hl (by decide) rfl (fun ls hl => ?_)
    refine lv_aload_n hx hb dX0_limit_16 rfl (lv_at hl 1 rfl) ?_
    refine lv_iload_n hx hb dX0_limit_17 rfl (lv_at hl 2 rfl) ?_
    refine va_put (D := (dC, dI)) (ci := 0) (v := .int g) (ty := .int) (C := RX0) (T := TX0) (N := 8) hx hb hts hin tyX0 tyX0_ok nmX0 hown hK hP hD hS 0 rfl rfl 2 (by decide) hf_16 (fun _ h9 => h9) rfl (by decide +kernel) rfl rfl (Nat.le_of_ble_eq_true rfl) dX0_limit_18 (fun H locs hP hD hS => ?_)
    have hP : va_P (dC, dI) vwCl (wX h qb qj qm qw qr cA (nI n) rec g fb fj fm fw fr) H := hP
    have hD : va_D (va_A (wX h qb qj qm qw qr cA (nI n) rec lim fb fj fm fw fr) s.heap.size) (wX h qb qj qm qw qr cA (nI n) rec g fb fj fm fw fr) := hD
    refine lv_iload_n hx hb dX0_limit_21 rfl (lv_at hl 0 rfl) ?_
    exact q_wi (w1 := (fun (u : Int32) => wX h qb qj qm qw qr cA (nI n) rec u fb fj fm fw fr)) g hx hb hr hlk hK hP hD hS (by rw [if_pos (by simp [c_1])]; exact ⟨rfl, rfl⟩) dX0_limit_22
  · skip
    have c_1 : (wnd g) = false := b2i_0 c_1
    refine lv_sipush (v := (-1000)) hx hb dX0_limit_7 (by decide) ?_
    exact q_wi (w1 := (fun (u : Int32) => wX h qb qj qm qw qr cA (nI n) rec u fb fj fm fw fr)) lim hx hb hr hlk hK hP hD hS (by rw [if_neg (by simp [c_1])]; exact ⟨rfl, rfl⟩) dX0_limit_10
