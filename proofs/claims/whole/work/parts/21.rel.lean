/-! what holds between the board and the reference, and that each call keeps it -/
def Rel (n : Nat) (J : Nat → Nat) (fb fj fm fw gb gj gm gw ft : Nat → Int32) : Prop :=
  n ≤ 8 ∧ (∀ j, j < 8 → fj j = nI (J j) ∧ J j ≤ 6) ∧ (∀ j, j < 8 → gj j = nI (J j) ∧ J j ≤ 6) ∧ (∀ j, n ≤ j → j < 8 → J j = 0) ∧ (∀ j, j < n → fb j = gb j) ∧
  (∀ j r, j < 8 → r < 6 → (if nI r < gj j then gm (6 * j + r) else 0) = mk fm j r) ∧ (∀ j r, j < 8 → r < 6 → (if nI r < gj j then gw (6 * j + r) else 100) = mk fw j r) ∧
  (ft 0 = 1 ∧ ft 1 = 3 ∧ ft 2 = 4 ∧ ft 3 = 6 ∧ ft 4 = 2 ∧ ft 5 = 5) ∧ okM (mk fm)
theorem anyB_congr {q r : Nat → Bool} {n : Nat} (h : ∀ t, t < n → q t = r t) : anyB q n = anyB r n := by
  induction n with
  | zero => rfl
  | succ n ih =>
    simp only [anyB]
    rw [ih (fun t ht => h t (by omega)), h n (by omega)]
theorem mrk_of {x : Int32} (h : mrk x = true) : 0 ≤ x.toInt ∧ x.toInt ≤ 1200 := by
  unfold mrk at h
  split at h
  · cases h
  · split at h
    · cases h
    · rename_i a b
      rw [i32_lt] at a b
      rw [i32_z] at a
      have : (1200 : Int32).toInt = 1200 := rfl
      omega
section RelS
variable {n : Nat} {J : Nat → Nat} {fb fj fm fw gb gj gm gw ft : Nat → Int32}
theorem rel_eB (R : Rel n J fb fj fm fw gb gj gm gw ft) (b : Int32) : eB gb n b = eB fb n b := by
  obtain ⟨hn, hJ, hJ1, hJ0, hb, hM, hV, hT, hB⟩ := R
  unfold eB
  rw [anyB_congr (q := fun i => decide (gb i = b)) (r := fun i => decide (fb i = b)) (fun t ht => by simp only [hb t ht])]
theorem rel_enter (R : Rel n J fb fj fm fw gb gj gm gw ft) {b : Int32} (q : eB fb n b = true) : Rel (n + 1) J (upd fb n b) fj fm fw (upd gb n b) (upd gj n 0) gm gw ft := by
  obtain ⟨hn, hJ, hJ1, hJ0, hb, hM, hV, hT, hB⟩ := R
  have hn8 : n < 8 := by
    unfold eB at q
    split at q
    · cases q
    · rename_i a
      exact Nat.not_le.mp (fun w => a (nI_le (a := 8) w (by omega)))
  have hz : J n = 0 := hJ0 n (Nat.le_refl n) hn8
  have e : ∀ j, j < 8 → upd gj n 0 j = gj j := by
    intro j hj
    by_cases w : j = n
    · subst w
      rw [pk_us, (hJ1 j hj).1, hz]
      rfl
    · rw [pk_un w]
  refine ⟨by omega, hJ, fun j hj => by rw [e j hj]; exact hJ1 j hj, fun j h1 h2 => hJ0 j (by omega) h2, fun j hj => ?_, fun j r hj hr => by rw [e j hj]; exact hM j r hj hr, fun j r hj hr => by rw [e j hj]; exact hV j r hj hr, hT, hB⟩
  by_cases w : j = n
  · subst w
    rw [pk_us, pk_us]
  · rw [pk_un w, pk_un w]
    exact hb j (by omega)
/-- one more round of jumper j -/
theorem rel_put (R : Rel n J fb fj fm fw gb gj gm gw ft) {j : Nat} (hj : j < n) (h6 : J j < 6) {g w : Int32} (hg : mrk g = true) : Rel n (fun k => if k = j then J j + 1 else J k) fb (upd fj j (nI (J j + 1))) (upd fm (6 * j + J j) g) (upd fw (6 * j + J j) w) gb (upd gj j (nI (J j + 1))) (upd gm (6 * j + J j) g) (upd gw (6 * j + J j) w) ft := by
  obtain ⟨hn, hJ, hJ1, hJ0, hb, hM, hV, hT, hB⟩ := R
  have key : ∀ (z : Int32) (f G : Nat → Int32) (y : Int32), (∀ j r, j < 8 → r < 6 → (if nI r < gj j then G (6 * j + r) else z) = mk f j r) → ∀ j' r, j' < 8 → r < 6 → (if nI r < upd gj j (nI (J j + 1)) j' then upd G (6 * j + J j) y (6 * j' + r) else z) = mk (upd f (6 * j + J j) y) j' r := by
    intro z f G y h j' r hj' hr
    have h0 := h j' r hj' hr
    unfold mk at h0 ⊢
    by_cases a : j' = j
    · subst a
      rw [pk_us]
      rw [(hJ1 j' hj').1] at h0
      by_cases c : r = J j'
      · subst c
        rw [pk_us, pk_us, if_pos (nI_lt (by omega) (by omega))]
      · rw [pk_un (by omega), pk_un (by omega), ← h0]
        by_cases d : r < J j'
        · rw [if_pos (nI_lt (by omega) (by omega)), if_pos (nI_lt d (by omega))]
        · rw [if_neg (nI_nlt (by omega) (by omega)), if_neg (nI_nlt (by omega) (by omega))]
    · rw [pk_un a, pk_un (by omega), pk_un (by omega)]
      exact h0
  refine ⟨hn, fun k hk => ?_, fun k hk => ?_, fun k h1 h2 => ?_, hb, key 0 fm gm g hM, key 100 fw gw w hV, hT, fun k r hk hr => ?_⟩
  · by_cases a : k = j
    · subst a
      dsimp only
      rw [pk_us, if_pos rfl]
      exact ⟨rfl, by omega⟩
    · dsimp only
      rw [pk_un a, if_neg a]
      exact hJ k hk
  · by_cases a : k = j
    · subst a
      dsimp only
      rw [pk_us, if_pos rfl]
      exact ⟨rfl, by omega⟩
    · dsimp only
      rw [pk_un a, if_neg a]
      exact hJ1 k hk
  · show (if k = j then J j + 1 else J k) = 0
    rw [if_neg (by omega)]
    exact hJ0 k h1 h2
  · unfold mk
    by_cases a : 6 * k + r = 6 * j + J j
    · rw [a, pk_us]
      exact mrk_of hg
    · rw [pk_un a]
      exact hB k r hk hr
/-- the latest round of jumper j is taken back -/
theorem rel_take (R : Rel n J fb fj fm fw gb gj gm gw ft) {j : Nat} (hj : j < n) (hp : 0 < J j) : Rel n (fun k => if k = j then J j - 1 else J k) fb (upd fj j (nI (J j - 1))) (upd fm (6 * j + (J j - 1)) 0) (upd fw (6 * j + (J j - 1)) 100) gb (upd gj j (nI (J j - 1))) gm gw ft := by
  obtain ⟨hn, hJ, hJ1, hJ0, hb, hM, hV, hT, hB⟩ := R
  have h6 := (hJ1 j (by omega)).2
  have key : ∀ (z : Int32) (f G : Nat → Int32), (∀ j r, j < 8 → r < 6 → (if nI r < gj j then G (6 * j + r) else z) = mk f j r) → ∀ j' r, j' < 8 → r < 6 → (if nI r < upd gj j (nI (J j - 1)) j' then G (6 * j' + r) else z) = mk (upd f (6 * j + (J j - 1)) z) j' r := by
    intro z f G h j' r hj' hr
    have h0 := h j' r hj' hr
    unfold mk at h0 ⊢
    by_cases a : j' = j
    · subst a
      rw [pk_us]
      rw [(hJ1 j' hj').1] at h0
      by_cases c : r = J j' - 1
      · subst c
        rw [pk_us, if_neg (nI_nlt (by omega) (by omega))]
      · rw [pk_un (by omega), ← h0]
        by_cases d : r < J j' - 1
        · rw [if_pos (nI_lt d (by omega)), if_pos (nI_lt (by omega) (by omega))]
        · rw [if_neg (nI_nlt (by omega) (by omega)), if_neg (nI_nlt (by omega) (by omega))]
    · rw [pk_un a, pk_un (by omega)]
      exact h0
  refine ⟨hn, fun k hk => ?_, fun k hk => ?_, fun k h1 h2 => ?_, hb, key 0 fm gm hM, key 100 fw gw hV, hT, fun k r hk hr => ?_⟩
  · by_cases a : k = j
    · subst a
      dsimp only
      rw [pk_us, if_pos rfl]
      exact ⟨rfl, by omega⟩
    · dsimp only
      rw [pk_un a, if_neg a]
      exact hJ k hk
  · by_cases a : k = j
    · subst a
      dsimp only
      rw [pk_us, if_pos rfl]
      exact ⟨rfl, by omega⟩
    · dsimp only
      rw [pk_un a, if_neg a]
      exact hJ1 k hk
  · show (if k = j then J j - 1 else J k) = 0
    rw [if_neg (by omega)]
    exact hJ0 k h1 h2
  · unfold mk
    by_cases a : 6 * k + r = 6 * j + (J j - 1)
    · rw [a, pk_us]
      exact ⟨by decide, by decide⟩
    · rw [pk_un a]
      exact hB k r hk hr
theorem kB_of (hn : n ≤ 8) {x g w : Int32} (h : kB (nI n) J x g w = true) : x.toNatClampNeg < n ∧ J x.toNatClampNeg < 6 ∧ mrk g = true := by
  simp [kB] at h
  obtain ⟨a, b, -, d⟩ := h
  obtain ⟨j, hj, rfl⟩ := jmp_of a hn
  rw [nI_clamp (by omega)] at d ⊢
  exact ⟨hj, d, b⟩
theorem uB_of (hn : n ≤ 8) {x : Int32} (h : uB (nI n) J x = true) : x.toNatClampNeg < n ∧ 0 < J x.toNatClampNeg := by
  simp [uB] at h
  obtain ⟨a, d⟩ := h
  obtain ⟨j, hj, rfl⟩ := jmp_of a hn
  rw [nI_clamp (by omega)] at d ⊢
  exact ⟨hj, d⟩
end RelS
theorem cntB_app (q : Nat → Bool) (a b : Nat) : cntB q (a + b) = cntB q a + cntB (fun r => q (a + r)) b := by
  induction b with
  | zero => rfl
  | succ b ih =>
    rw [show a + (b + 1) = (a + b) + 1 by omega]
    simp only [cntB]
    rw [ih]
    omega
theorem cnt_grid (q : Nat → Bool) (m : Nat) : cntB q (6 * m) = sumN (fun j => cntB (fun r => q (6 * j + r)) 6) m := by
  induction m with
  | zero => rfl
  | succ m ih =>
    rw [show 6 * (m + 1) = 6 * m + 6 by omega, cntB_app, ih]
    rfl
theorem cntB_cut {q : Nat → Bool} {k m : Nat} (hk : k ≤ m) (h : ∀ r, k ≤ r → r < m → q r = false) : cntB q m = cntB q k := by
  rw [show m = k + (m - k) by omega, cntB_app, cntB_0 (i := m - k) (fun t ht => h (k + t) (by omega) (by omega))]
  rfl
theorem sumN_congr {f g : Nat → Nat} {n : Nat} (h : ∀ i, i < n → f i = g i) : sumN f n = sumN g n := by
  induction n with
  | zero => rfl
  | succ n ih =>
    simp only [sumN]
    rw [ih (fun i hi => h i (by omega)), h n (by omega)]
theorem sumN_add {f g k : Nat → Nat} {n : Nat} (h : ∀ i, i < n → f i = g i + k i) : sumN f n = sumN g n + sumN k n := by
  induction n with
  | zero => rfl
  | succ n ih =>
    simp only [sumN]
    rw [ih (fun i hi => h i (by omega)), h n (by omega)]
    omega
theorem sumN_cut {f : Nat → Nat} {n m : Nat} (hn : n ≤ m) (h : ∀ i, n ≤ i → i < m → f i = 0) : sumN f m = sumN f n := by
  induction m with
  | zero =>
    have : n = 0 := by omega
    rw [this]
  | succ m ih =>
    rcases Nat.lt_or_ge n (m + 1) with a | a
    · simp only [sumN]
      rw [ih (by omega) (fun i h1 h2 => h i h1 (by omega)), h m (by omega) (by omega)]
      rfl
    · have : n = m + 1 := by omega
      rw [this]
theorem sumI_nI {f : Nat → Int32} {J : Nat → Nat} {n : Nat} (h : ∀ j, j < n → f j = nI (J j)) : sumI f n = nI (sumN J n) := by
  induction n with
  | zero => rfl
  | succ n ih =>
    simp only [sumI, sumN]
    rw [ih (fun j hj => h j (by omega)), h n (by omega), nI_add]
theorem cntB_true (q : Nat → Bool) (h : ∀ t, q t = true) (i : Nat) : cntB q i = i := by
  induction i with
  | zero => rfl
  | succ i ih =>
    simp only [cntB]
    rw [ih, if_pos (h i)]
theorem told_eq {n : Nat} {J : Nat → Nat} {fb fj fm fw gb gj gm gw ft : Nat → Int32} (R : Rel n J fb fj fm fw gb gj gm gw ft) (rec lim w : Int32) : a0Told fj fm (mk fm) (mk fw) n rec lim w = a1Told J (mk fm) (mk fw) n rec lim w := by
  obtain ⟨hn, hJ, hJ1, hJ0, hb, hM, hV, hT, hB⟩ := R
  have hz : ∀ j r, j < 8 → J j ≤ r → r < 6 → mk fm j r = 0 := by
    intro j r hj h1 hr
    rw [← hM j r hj hr, (hJ1 j hj).1, if_neg (nI_nlt h1 (by omega))]
  have hs : sumI fj n = nI (sumN J n) := sumI_nI (fun j hj => (hJ j (by omega)).1)
  unfold a0Told a1Told
  by_cases w0 : w = 0
  · rw [if_pos w0, if_pos w0]
  rw [if_neg w0, if_neg w0]
  by_cases w1 : w = 1
  · subst w1
    rw [if_pos rfl, if_neg (by decide), if_neg (by decide), if_pos (by decide), hs]
    congr 1
    exact sumN_congr (fun i hi => (cntB_true _ (fun t => by simp [tqB]) (J i)).symm)
  rw [if_neg w1]
  by_cases w2 : w = 2
  · subst w2
    rw [if_pos rfl, if_neg (by decide), if_neg (by decide), if_pos (by decide), hs]
    have e1 : cntB (fun k => !decide (fm k = 0)) 48 = sumN (fun j => cntB (fun r => !decide (mk fm j r = 0)) (J j)) n := by
      rw [show (48 : Nat) = 6 * 8 from rfl, cnt_grid, sumN_cut hn (fun i h1 h2 => cntB_0 (fun t ht => by
        have := hz i t h2 (by rw [hJ0 i h1 h2]; omega) ht
        unfold mk at this
        simp [this]))]
      refine sumN_congr (fun i hi => cntB_cut (hJ i (by omega)).2 (fun r h1 h2 => ?_))
      have := hz i r (by omega) h1 h2
      unfold mk at this
      simp [this]
    have e2 : sumN J n = sumN (fun j => cntB (tqB (mk fm) (mk fw) lim 2 j) (J j)) n + sumN (fun j => cntB (fun r => !decide (mk fm j r = 0)) (J j)) n := by
      refine sumN_add (fun i hi => ?_)
      rw [← cntB_add (q := fun _ => true) (fun t ht => by cases h : decide (mk fm i t = 0) <;> simp [tqB, h])]
      exact (cntB_true _ (fun _ => rfl) _).symm
    rw [e1, e2, pk_sub (by omega)]
    congr 1
    omega
  rw [if_neg w2]
  by_cases w3 : w = 3
  · subst w3
    rw [if_pos rfl, if_neg (by decide), if_neg (by decide), if_pos (by decide)]
    congr 1
    refine sumN_congr (fun i hi => ?_)
    rw [cntB_cut (hJ i (by omega)).2 (fun r h1 h2 => by rw [lgl, if_pos (hz i r (by omega) h1 h2)])]
    exact cntB_congr (fun t ht => by simp [tqB])
  rw [if_neg w3]
  by_cases w4 : w = 4
  · rw [if_pos w4, if_pos w4]
  rw [if_neg w4, if_neg w4]
  by_cases w5 : w = 5
  · rw [if_pos w5, if_pos w5]
  rw [if_neg w5, if_neg w5]
  have a1 := lv_neT (a := 1) w1 rfl
  have a2 := lv_neT (a := 2) w2 rfl
  have a3 := lv_neT (a := 3) w3 rfl
  have e : inR w 1 3 = false := by
    unfold inR
    split
    · rfl
    · split
      · rfl
      · rename_i p q
        rw [i32_lt, show (1 : Int32).toInt = 1 from rfl] at p
        rw [i32_lt, show (3 : Int32).toInt = 3 from rfl] at q
        omega
  rw [if_neg (by rw [e]; decide)]
