/-! the order of the rows: how many marks are at least v says it all -/
theorem i32_le {x y : Int32} : x ≤ y ↔ x.toInt ≤ y.toInt := Int32.le_iff_toInt_le
theorem i32_lt {x y : Int32} : x < y ↔ x.toInt < y.toInt := Int32.lt_iff_toInt_lt
theorem i32_eq {x y : Int32} : x = y ↔ x.toInt = y.toInt := Int32.toInt_inj.symm
theorem i32_z : (0 : Int32).toInt = 0 := rfl
theorem cntB_le (q : Nat → Bool) (i : Nat) : cntB q i ≤ i := by
  induction i with
  | zero => exact Nat.le_refl 0
  | succ i ih =>
    simp only [cntB]
    split <;> omega
theorem cntB_congr {q r : Nat → Bool} {i : Nat} (h : ∀ t, t < i → q t = r t) : cntB q i = cntB r i := by
  induction i with
  | zero => rfl
  | succ i ih =>
    simp only [cntB]
    rw [ih (fun t ht => h t (by omega)), h i (by omega)]
theorem cntB_0 {q : Nat → Bool} {i : Nat} (h : ∀ t, t < i → q t = false) : cntB q i = 0 := by
  induction i with
  | zero => rfl
  | succ i ih =>
    simp only [cntB]
    rw [ih (fun t ht => h t (by omega)), h i (by omega)]
    rfl
theorem cntB_pos {q : Nat → Bool} {i t : Nat} (ht : t < i) (h : q t = true) : 0 < cntB q i := by
  induction i with
  | zero => omega
  | succ i ih =>
    simp only [cntB]
    rcases Nat.lt_or_ge t i with a | a
    · have := ih a
      omega
    · have : t = i := by omega
      subst this
      rw [if_pos h]
      omega
theorem cntB_add {q a b : Nat → Bool} {i : Nat} (h : ∀ t, t < i → (q t = (a t || b t)) ∧ (a t && b t) = false) : cntB q i = cntB a i + cntB b i := by
  induction i with
  | zero => rfl
  | succ i ih =>
    simp only [cntB]
    rw [ih (fun t ht => h t (by omega)), (h i (by omega)).1]
    have h2 := (h i (by omega)).2
    cases ha : a i <;> cases hb : b i <;> simp [ha, hb] at h2 ⊢ <;> omega
def cge (g : Nat → Bool) (f : Nat → Int32) (v : Int) (i : Nat) : Nat := cntB (fun r => g r && decide (v ≤ (f r).toInt)) i
theorem mvR_spec {row : Nat → Int32} {x : Int32} {v : Int} {d : Nat} (hr : ∀ t, v ≤ (row t).toInt ↔ t < d) (t : Nat) : v ≤ (mvR row x t).toInt ↔ (v ≤ x.toInt ∧ t ≤ d) := by
  induction t with
  | zero => simp [mvR]
  | succ t ih =>
    have h1 := hr t
    simp only [mvR]
    split
    · rename_i h
      rw [i32_lt] at h
      constructor
      · intro q
        have := ih.mp (by omega)
        have := h1.mp q
        exact ⟨this |> fun _ => (ih.mp (by omega)).1, by omega⟩
      · intro q
        exact h1.mpr (by omega)
    · rename_i h
      rw [i32_lt] at h
      constructor
      · intro q
        have := ih.mp q
        have := h1.mp (by omega)
        exact ⟨(ih.mp q).1, by omega⟩
      · intro q
        exact ih.mpr ⟨q.1, by omega⟩
theorem insR_spec {row : Nat → Int32} {x : Int32} {v : Int} {d : Nat} (hr : ∀ t, v ≤ (row t).toInt ↔ t < d) (t : Nat) : v ≤ (insR row x t).toInt ↔ t < d + (if v ≤ x.toInt then 1 else 0) := by
  have h1 := hr t
  have h2 := mvR_spec (x := x) hr t
  unfold insR
  split
  · rename_i h
    rw [i32_lt] at h
    rw [h2]
    constructor
    · rintro ⟨a, b⟩
      rw [if_pos a]; omega
    · intro q
      split at q
      · rename_i a
        exact ⟨a, by omega⟩
      · have := h2.mp (by have := h1.mpr (by omega); omega)
        exact this
  · rename_i h
    rw [i32_lt] at h
    rw [h1]
    constructor
    · intro q
      split <;> omega
    · intro q
      split at q
      · rename_i a
        rcases Nat.lt_or_ge t d with b | b
        · exact b
        · have := h2.mpr ⟨a, by omega⟩
          exact h1.mp (by omega)
      · omega
theorem rowU_spec (g : Nat → Bool) (f : Nat → Int32) (i : Nat) {v : Int} (hv : 0 < v) : ∀ t, v ≤ (rowU g f i t).toInt ↔ t < cge g f v i := by
  induction i with
  | zero =>
    intro t
    simp only [rowU, cge, cntB, i32_z]
    omega
  | succ i ih =>
    intro t
    simp only [rowU]
    split
    · rename_i h
      rw [insR_spec ih t]
      simp only [cge, cntB, h, Bool.true_and, decide_eq_true_eq]
    · rename_i h
      rw [ih t]
      simp [cge, cntB, h]
theorem mvR_nn {row : Nat → Int32} {x : Int32} (hr : ∀ t, 0 ≤ (row t).toInt) (hx : 0 ≤ x.toInt) (t : Nat) : 0 ≤ (mvR row x t).toInt := by
  induction t with
  | zero => exact hx
  | succ t ih =>
    simp only [mvR]
    split
    · exact hr t
    · exact ih
theorem rowU_nn {g : Nat → Bool} {f : Nat → Int32} {i : Nat} (hf : ∀ r, r < i → 0 ≤ (f r).toInt) : ∀ t, 0 ≤ (rowU g f i t).toInt := by
  induction i with
  | zero =>
    intro t
    simp only [rowU, i32_z]
    omega
  | succ i ih =>
    intro t
    have ih := ih (fun r hr => hf r (by omega))
    simp only [rowU]
    split
    · unfold insR
      split
      · exact mvR_nn ih (hf i (by omega)) t
      · exact ih t
    · exact ih t
theorem lxF_t {ra rb : Nat → Int32} {t : Nat} (k i : Nat) (he : ∀ u, i ≤ u → u < t → ra u = rb u) (hi : i ≤ t) (ht : t < i + k) (h : rb t < ra t) : lxF ra rb k i = true := by
  induction k generalizing i with
  | zero => omega
  | succ k ih =>
    simp only [lxF]
    rcases Nat.lt_or_ge i t with a | a
    · rw [if_pos (he i (Nat.le_refl i) a)]
      exact ih (i + 1) (fun u h1 h2 => he u (by omega) h2) (by omega) (by omega)
    · have : i = t := by omega
      subst this
      rw [if_neg (fun q => by rw [q] at h; exact Int32.lt_irrefl h)]
      simp [h]
theorem lxF_f {ra rb : Nat → Int32} {t : Nat} (k i : Nat) (he : ∀ u, i ≤ u → u < t → ra u = rb u) (hi : i ≤ t) (ht : t < i + k) (h : ra t < rb t) : lxF ra rb k i = false := by
  induction k generalizing i with
  | zero => omega
  | succ k ih =>
    simp only [lxF]
    rcases Nat.lt_or_ge i t with a | a
    · rw [if_pos (he i (Nat.le_refl i) a)]
      exact ih (i + 1) (fun u h1 h2 => he u (by omega) h2) (by omega) (by omega)
    · have : i = t := by omega
      subst this
      rw [if_neg (fun q => by rw [q] at h; exact Int32.lt_irrefl h), decide_eq_false]
      rw [i32_lt] at h ⊢
      omega
theorem lxF_e {ra rb : Nat → Int32} (k i : Nat) (he : ∀ u, ra u = rb u) : lxF ra rb k i = false := by
  induction k generalizing i with
  | zero => rfl
  | succ k ih =>
    simp only [lxF]
    rw [if_pos (he i)]
    exact ih (i + 1)
theorem lxF_congr {ra rb sa sb : Nat → Int32} (k i : Nat) (ha : ∀ u, u < i + k → ra u = sa u) (hb : ∀ u, u < i + k → rb u = sb u) : lxF ra rb k i = lxF sa sb k i := by
  induction k generalizing i with
  | zero => rfl
  | succ k ih =>
    simp only [lxF]
    rw [ha i (by omega), hb i (by omega), ih (i + 1) (fun u h => ha u (by omega)) (fun u h => hb u (by omega))]
theorem lx6_congr {ra rb sa sb : Nat → Int32} (ha : ∀ u, u < 6 → ra u = sa u) (hb : ∀ u, u < 6 → rb u = sb u) : lx6 ra rb = lx6 sa sb := lxF_congr 6 0 (fun u h => ha u (by omega)) (fun u h => hb u (by omega))
def AH (ca cb : Int → Nat) : Prop := ∃ w : Int, 0 < w ∧ (∀ v, w < v → ca v = cb v) ∧ cb w < ca w
section OrdA
variable {ra rb : Nat → Int32} {ca cb : Int → Nat}
theorem row_eq (h1 : ∀ v, 0 < v → ∀ t, v ≤ (ra t).toInt ↔ t < ca v) (h2 : ∀ v, 0 < v → ∀ t, v ≤ (rb t).toInt ↔ t < cb v) (na : ∀ t, 0 ≤ (ra t).toInt) (nb : ∀ t, 0 ≤ (rb t).toInt) {u : Nat} (h : ∀ v, 0 < v → (u < ca v ↔ u < cb v)) : ra u = rb u := by
  rw [i32_eq]
  have a := na u
  have b := nb u
  rcases Int.lt_trichotomy (ra u).toInt (rb u).toInt with q | q | q
  · have p : 0 < (rb u).toInt := by omega
    have := (h1 _ p u).mpr ((h _ p).mpr ((h2 _ p u).mp (Int.le_refl _)))
    omega
  · exact q
  · have p : 0 < (ra u).toInt := by omega
    have := (h2 _ p u).mpr ((h _ p).mp ((h1 _ p u).mp (Int.le_refl _)))
    omega
theorem ah_row (h1 : ∀ v, 0 < v → ∀ t, v ≤ (ra t).toInt ↔ t < ca v) (h2 : ∀ v, 0 < v → ∀ t, v ≤ (rb t).toInt ↔ t < cb v) (na : ∀ t, 0 ≤ (ra t).toInt) (nb : ∀ t, 0 ≤ (rb t).toInt) (h6 : ∀ v, ca v ≤ 6) (h : AH ca cb) : ∃ t, t < 6 ∧ (∀ u, 0 ≤ u → u < t → ra u = rb u) ∧ rb t < ra t := by
  obtain ⟨w, hw, he, hl⟩ := h
  refine ⟨cb w, Nat.lt_of_lt_of_le hl (h6 w), fun u _ hu => row_eq h1 h2 na nb (fun v hv => ?_), ?_⟩
  · rcases Int.lt_or_le w v with q | q
    · rw [he v q]
    · have a := (h1 w hw u).mpr (by omega)
      have b := (h2 w hw u).mpr hu
      exact ⟨fun _ => (h2 v hv u).mp (by omega), fun _ => (h1 v hv u).mp (by omega)⟩
  · have a := (h1 w hw (cb w)).mpr hl
    have b : ¬ w ≤ (rb (cb w)).toInt := fun q => absurd ((h2 w hw _).mp q) (Nat.lt_irrefl _)
    rw [i32_lt]
    omega
theorem ah_lt (h1 : ∀ v, 0 < v → ∀ t, v ≤ (ra t).toInt ↔ t < ca v) (h2 : ∀ v, 0 < v → ∀ t, v ≤ (rb t).toInt ↔ t < cb v) (na : ∀ t, 0 ≤ (ra t).toInt) (nb : ∀ t, 0 ≤ (rb t).toInt) (h6 : ∀ v, ca v ≤ 6) (h : AH ca cb) : lx6 ra rb = true ∧ lx6 rb ra = false := by
  obtain ⟨t, ht, he, hl⟩ := ah_row h1 h2 na nb h6 h
  exact ⟨lxF_t 6 0 he (Nat.zero_le t) (by omega) hl, lxF_f 6 0 (fun u a b => (he u a b).symm) (Nat.zero_le t) (by omega) hl⟩
theorem ah_eq (h1 : ∀ v, 0 < v → ∀ t, v ≤ (ra t).toInt ↔ t < ca v) (h2 : ∀ v, 0 < v → ∀ t, v ≤ (rb t).toInt ↔ t < cb v) (na : ∀ t, 0 ≤ (ra t).toInt) (nb : ∀ t, 0 ≤ (rb t).toInt) (h : ∀ v, 0 < v → ca v = cb v) : lx6 ra rb = false ∧ lx6 rb ra = false := by
  have e : ∀ u, ra u = rb u := fun u => row_eq h1 h2 na nb (fun v hv => by rw [h v hv])
  exact ⟨lxF_e 6 0 e, lxF_e 6 0 (fun u => (e u).symm)⟩
end OrdA
theorem AH.trans {ca cb cd : Int → Nat} (h : AH ca cb) (k : AH cb cd) : AH ca cd := by
  obtain ⟨w, hw, he, hl⟩ := h
  obtain ⟨x, hx, ke, kl⟩ := k
  rcases Int.lt_trichotomy w x with q | q | q
  · exact ⟨x, hx, fun v hv => by rw [he v (by omega), ke v hv], by rw [he x q]; exact kl⟩
  · subst q
    exact ⟨w, hw, fun v hv => by rw [he v hv, ke v hv], by omega⟩
  · exact ⟨w, hw, fun v hv => by rw [he v hv, ke v (by omega)], by rw [← ke w q]; exact hl⟩
theorem AH.congr_r {ca cb cd : Int → Nat} (h : AH ca cb) (k : ∀ v, 0 < v → cb v = cd v) : AH ca cd := by
  obtain ⟨w, hw, he, hl⟩ := h
  exact ⟨w, hw, fun v hv => by rw [he v hv, k v (by omega)], by rw [← k w hw]; exact hl⟩
theorem AH.congr_l {ca cb cd : Int → Nat} (h : AH ca cb) (k : ∀ v, 0 < v → ca v = cd v) : AH cd cb := by
  obtain ⟨w, hw, he, hl⟩ := h
  exact ⟨w, hw, fun v hv => by rw [← k v (by omega), he v hv], by rw [← k w hw]; exact hl⟩
/-- of two counts that agree far up, one is ahead, or they agree everywhere -/
theorem AH.tri {ca cb : Int → Nat} (N : Nat) (h : ∀ v : Int, (N : Int) < v → ca v = cb v) : AH ca cb ∨ AH cb ca ∨ ∀ v, 0 < v → ca v = cb v := by
  induction N with
  | zero => exact Or.inr (Or.inr (fun v hv => h v (by omega)))
  | succ N ih =>
    rcases Nat.lt_trichotomy (ca (N + 1 : Nat)) (cb (N + 1 : Nat)) with q | q | q
    · exact Or.inr (Or.inl ⟨(N + 1 : Nat), by omega, fun v hv => (h v hv).symm, q⟩)
    · refine ih (fun v hv => ?_)
      rcases Int.lt_or_le ((N + 1 : Nat) : Int) v with a | a
      · exact h v a
      · have : v = ((N + 1 : Nat) : Int) := by omega
        rw [this]; exact q
    · exact Or.inl ⟨(N + 1 : Nat), by omega, fun v hv => h v hv, q⟩
