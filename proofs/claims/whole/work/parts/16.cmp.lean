/-! jumpers compared: by the rows, and by the greatest marks and how many there are of them -/
def cj (M V : Nat → Nat → Int32) (lim : Int32) (j : Nat) (v : Int) : Nat := cge (lgl M V lim j) (M j) v 6
def okM (M : Nat → Nat → Int32) : Prop := ∀ j r, j < 8 → r < 6 → 0 ≤ (M j r).toInt ∧ (M j r).toInt ≤ 1200
def cmpR (M V : Nat → Nat → Int32) (lim : Int32) (a b : Nat) : Int32 := if lx6 (srt M V lim a) (srt M V lim b) = true then 1 else if lx6 (srt M V lim b) (srt M V lim a) = true then -1 else 0
def zB (M V : Nat → Nat → Int32) (lim : Int32) (a b : Nat) (u : Int32) : Int32 := if grtU (lgl M V lim a) (M a) u 6 ≤ grtU (lgl M V lim b) (M b) u 6 then grtU (lgl M V lim b) (M b) u 6 else grtU (lgl M V lim a) (M a) u 6
def mnI (M V : Nat → Nat → Int32) (lim : Int32) (j : Nat) (z : Int32) : Nat := cntB (fun t => lgl M V lim j t && decide (M j t = z)) 6
def mrI (M V : Nat → Nat → Int32) (lim : Int32) (a b : Nat) (z : Int32) : Int32 := if z = 0 then 0 else nI (mnI M V lim a z) - nI (mnI M V lim b z)
theorem grt_spec {g : Nat → Bool} {f : Nat → Int32} {b : Int32} {i : Nat} : 0 ≤ (grtU g f b i).toInt ∧ ((grtU g f b i).toInt = 0 ∨ (grtU g f b i).toInt < b.toInt) ∧ ∀ r, r < i → g r = true → (f r).toInt < b.toInt → (f r).toInt ≤ (grtU g f b i).toInt := by
  induction i with
  | zero => exact ⟨Int.le_refl 0, Or.inl rfl, fun r h => by omega⟩
  | succ i ih =>
    obtain ⟨h1, h2, h3⟩ := ih
    simp only [grtU]
    split
    · rename_i hg
      split
      · rename_i hb
        rw [i32_lt] at hb
        split
        · rename_i hc
          rw [i32_lt] at hc
          refine ⟨by omega, Or.inr hb, fun r hr g1 g2 => ?_⟩
          rcases Nat.lt_or_ge r i with q | q
          · have := h3 r q g1 g2
            omega
          · have : r = i := by omega
            subst this
            omega
        · rename_i hc
          rw [i32_lt] at hc
          refine ⟨h1, h2, fun r hr g1 g2 => ?_⟩
          rcases Nat.lt_or_ge r i with q | q
          · exact h3 r q g1 g2
          · have : r = i := by omega
            subst this
            omega
      · rename_i hb
        rw [i32_lt] at hb
        refine ⟨h1, h2, fun r hr g1 g2 => ?_⟩
        rcases Nat.lt_or_ge r i with q | q
        · exact h3 r q g1 g2
        · have : r = i := by omega
          subst this
          omega
    · rename_i hg
      refine ⟨h1, h2, fun r hr g1 g2 => ?_⟩
      rcases Nat.lt_or_ge r i with q | q
      · exact h3 r q g1 g2
      · have : r = i := by omega
        subst this
        exact absurd g1 hg
theorem bst_spec {g : Nat → Bool} {f : Nat → Int32} {i : Nat} : 0 ≤ (bstU g f i).toInt ∧ ((bstU g f i).toInt = 0 ∨ ∃ r, r < i ∧ g r = true ∧ f r = bstU g f i) ∧ ∀ r, r < i → g r = true → (f r).toInt ≤ (bstU g f i).toInt := by
  induction i with
  | zero => exact ⟨Int.le_refl 0, Or.inl rfl, fun r h => by omega⟩
  | succ i ih =>
    obtain ⟨h1, h2, h3⟩ := ih
    simp only [bstU]
    split
    · rename_i hg
      split
      · rename_i hc
        rw [i32_lt] at hc
        refine ⟨by omega, Or.inr ⟨i, by omega, hg, rfl⟩, fun r hr g1 => ?_⟩
        rcases Nat.lt_or_ge r i with q | q
        · have := h3 r q g1
          omega
        · have : r = i := by omega
          subst this
          omega
      · rename_i hc
        rw [i32_lt] at hc
        refine ⟨h1, h2.imp id (fun ⟨r, a, b⟩ => ⟨r, by omega, b⟩), fun r hr g1 => ?_⟩
        rcases Nat.lt_or_ge r i with q | q
        · exact h3 r q g1
        · have : r = i := by omega
          subst this
          omega
    · rename_i hg
      refine ⟨h1, h2.imp id (fun ⟨r, a, b⟩ => ⟨r, by omega, b⟩), fun r hr g1 => ?_⟩
      rcases Nat.lt_or_ge r i with q | q
      · exact h3 r q g1
      · have : r = i := by omega
        subst this
        exact absurd g1 hg
theorem grt_bst {g : Nat → Bool} {f : Nat → Int32} {b : Int32} {i : Nat} (h : ∀ r, r < i → (f r).toInt < b.toInt) : grtU g f b i = bstU g f i := by
  induction i with
  | zero => rfl
  | succ i ih =>
    simp only [grtU, bstU]
    rw [ih (fun r hr => h r (by omega)), if_pos (i32_lt.mpr (h i (by omega)))]
section Cmp
variable {M V : Nat → Nat → Int32} {lim : Int32}
theorem srt_spec (j : Nat) : ∀ v, 0 < v → ∀ t, v ≤ (srt M V lim j t).toInt ↔ t < cj M V lim j v := fun _ hv => rowU_spec _ _ 6 hv
theorem srt_nn (hB : okM M) {j : Nat} (hj : j < 8) : ∀ t, 0 ≤ (srt M V lim j t).toInt := rowU_nn (fun r hr => (hB j r hj hr).1)
theorem cj_6 (j : Nat) (v : Int) : cj M V lim j v ≤ 6 := cntB_le _ 6
theorem cj_hi (hB : okM M) {j : Nat} (hj : j < 8) {v : Int} (hv : 1200 < v) : cj M V lim j v = 0 := by
  refine cntB_0 (fun t ht => ?_)
  have := (hB j t hj ht).2
  simp
  intro _
  omega
theorem cj_tri (hB : okM M) {a b : Nat} (ha : a < 8) (hb : b < 8) : AH (cj M V lim a) (cj M V lim b) ∨ AH (cj M V lim b) (cj M V lim a) ∨ ∀ v, 0 < v → cj M V lim a v = cj M V lim b v :=
  AH.tri 1200 (fun v hv => by rw [cj_hi hB ha (by omega), cj_hi hB hb (by omega)])
theorem lx_t (hB : okM M) {a b : Nat} (ha : a < 8) (hb : b < 8) (h : AH (cj M V lim a) (cj M V lim b)) : lx6 (srt M V lim a) (srt M V lim b) = true ∧ lx6 (srt M V lim b) (srt M V lim a) = false :=
  ah_lt (srt_spec a) (srt_spec b) (srt_nn hB ha) (srt_nn hB hb) (cj_6 a) h
theorem lx_e (hB : okM M) {a b : Nat} (ha : a < 8) (hb : b < 8) (h : ∀ v, 0 < v → cj M V lim a v = cj M V lim b v) : lx6 (srt M V lim a) (srt M V lim b) = false ∧ lx6 (srt M V lim b) (srt M V lim a) = false :=
  ah_eq (srt_spec a) (srt_spec b) (srt_nn hB ha) (srt_nn hB hb) h
theorem cmp_1 (hB : okM M) {a b : Nat} (ha : a < 8) (hb : b < 8) (h : AH (cj M V lim a) (cj M V lim b)) : cmpR M V lim a b = 1 := by
  rw [cmpR, if_pos (lx_t hB ha hb h).1]
theorem cmp_m (hB : okM M) {a b : Nat} (ha : a < 8) (hb : b < 8) (h : AH (cj M V lim b) (cj M V lim a)) : cmpR M V lim a b = -1 := by
  rw [cmpR, if_neg (by rw [(lx_t hB hb ha h).2]; decide), if_pos (lx_t hB hb ha h).1]
theorem cmp_0 (hB : okM M) {a b : Nat} (ha : a < 8) (hb : b < 8) (h : ∀ v, 0 < v → cj M V lim a v = cj M V lim b v) : cmpR M V lim a b = 0 := by
  rw [cmpR, if_neg (by rw [(lx_e hB ha hb h).1]; decide), if_neg (by rw [(lx_e hB ha hb h).2]; decide)]
def cI (M V : Nat → Nat → Int32) (lim : Int32) (a b : Nat) (u : Int32) : Prop := 0 ≤ u.toInt ∧ u.toInt ≤ 1201 ∧ ∀ v : Int, u.toInt ≤ v → 0 < v → cj M V lim a v = cj M V lim b v
theorem cI_0 (hB : okM M) {a b : Nat} (ha : a < 8) (hb : b < 8) : cI M V lim a b 1201 := by
  refine ⟨by decide, by decide, fun v hv _ => ?_⟩
  have : (1201 : Int32).toInt = 1201 := rfl
  rw [cj_hi hB ha (by omega), cj_hi hB hb (by omega)]
/-- between the greatest mark below u and u there is none -/
theorem cj_gap {j : Nat} {u : Int32} {v : Int} (h1 : (grtU (lgl M V lim j) (M j) u 6).toInt < v) (h2 : v ≤ u.toInt) : cj M V lim j v = cj M V lim j u.toInt := by
  refine cntB_congr (fun t ht => ?_)
  have h3 := (grt_spec (g := lgl M V lim j) (f := M j) (b := u) (i := 6)).2.2 t ht
  cases hg : lgl M V lim j t
  · simp
  · have h3 := h3 hg
    simp
    omega
theorem cI_z {a b : Nat} {u : Int32} (h : cI M V lim a b u) (hu : 0 < u.toInt) : 0 ≤ (zB M V lim a b u).toInt ∧ (zB M V lim a b u).toInt < u.toInt ∧ ∀ v : Int, (zB M V lim a b u).toInt < v → cj M V lim a v = cj M V lim b v := by
  obtain ⟨h1, h2, h3⟩ := h
  have ga := grt_spec (g := lgl M V lim a) (f := M a) (b := u) (i := 6)
  have gb := grt_spec (g := lgl M V lim b) (f := M b) (b := u) (i := 6)
  have key : 0 ≤ (zB M V lim a b u).toInt ∧ (zB M V lim a b u).toInt < u.toInt ∧ (grtU (lgl M V lim a) (M a) u 6).toInt ≤ (zB M V lim a b u).toInt ∧ (grtU (lgl M V lim b) (M b) u 6).toInt ≤ (zB M V lim a b u).toInt := by
    unfold zB
    split
    · rename_i q
      rw [i32_le] at q
      omega
    · rename_i q
      rw [i32_le] at q
      omega
  refine ⟨key.1, key.2.1, fun v hv => ?_⟩
  rcases Int.lt_or_le v u.toInt with q | q
  · rw [cj_gap (by omega) (Int.le_of_lt q), cj_gap (j := b) (by omega) (Int.le_of_lt q)]
    exact h3 _ (Int.le_refl _) hu
  · exact h3 v q (by omega)
theorem cj_many (j : Nat) (z : Int32) : cj M V lim j z.toInt = mnI M V lim j z + cj M V lim j (z.toInt + 1) := by
  refine cntB_add (fun t ht => ?_)
  cases hg : lgl M V lim j t
  · simp
  · simp only [Bool.true_and, i32_eq]
    constructor
    · rw [← Bool.decide_or]
      congr 1
      apply propext
      omega
    · rw [← Bool.decide_and, decide_eq_false]
      omega
theorem mnI_6 (j : Nat) (z : Int32) : mnI M V lim j z ≤ 6 := cntB_le _ 6
theorem mrI_eq {a b : Nat} {z : Int32} (hz : ¬ z = 0) : (mrI M V lim a b z).toInt = (mnI M V lim a z : Int) - mnI M V lim b z := by
  rw [mrI, if_neg hz]
  have := mnI_6 (M := M) (V := V) (lim := lim) a z
  have := mnI_6 (M := M) (V := V) (lim := lim) b z
  exact pk_sub_toInt (by omega) (by omega)
theorem cmp_back {a b : Nat} {u : Int32} (h : cI M V lim a b u) (hu : ¬ u ≤ 0) (hm : mrI M V lim a b (zB M V lim a b u) = 0) : cI M V lim a b (zB M V lim a b u) ∧ (zB M V lim a b u).toInt.toNat < u.toInt.toNat := by
  rw [i32_le, i32_z] at hu
  have hu : 0 < u.toInt := by omega
  obtain ⟨h1, h2, h3⟩ := cI_z h hu
  have h9 := h.2.1
  refine ⟨⟨h1, by omega, fun v hv hp => ?_⟩, by omega⟩
  rcases Int.lt_or_le (zB M V lim a b u).toInt v with q | q
  · exact h3 v q
  · have e : v = (zB M V lim a b u).toInt := by omega
    have hz : ¬ zB M V lim a b u = 0 := fun q => by rw [q, i32_z] at e; omega
    have e2 := mrI_eq (M := M) (V := V) (lim := lim) (a := a) (b := b) hz
    rw [hm, i32_z] at e2
    rw [e, cj_many, cj_many, h3 _ (by omega)]
    omega
theorem cmp_p (hB : okM M) {a b : Nat} (ha : a < 8) (hb : b < 8) {u : Int32} (h : cI M V lim a b u) (hu : ¬ u ≤ 0) (hm : ¬ mrI M V lim a b (zB M V lim a b u) = 0) (hp : ¬ mrI M V lim a b (zB M V lim a b u) ≤ 0) : cmpR M V lim a b = 1 := by
  rw [i32_le, i32_z] at hu hp
  obtain ⟨h1, h2, h3⟩ := cI_z h (by omega)
  have hz : ¬ zB M V lim a b u = 0 := fun q => by rw [q] at hm; exact hm rfl
  have e2 := mrI_eq (M := M) (V := V) (lim := lim) (a := a) (b := b) hz
  have hz2 : ¬ (zB M V lim a b u).toInt = 0 := fun q => hz (i32_eq.mpr q)
  refine cmp_1 hB ha hb ⟨(zB M V lim a b u).toInt, by omega, h3, ?_⟩
  rw [cj_many, cj_many, h3 _ (by omega)]
  omega
theorem cmp_n (hB : okM M) {a b : Nat} (ha : a < 8) (hb : b < 8) {u : Int32} (h : cI M V lim a b u) (hu : ¬ u ≤ 0) (hm : ¬ mrI M V lim a b (zB M V lim a b u) = 0) (hp : mrI M V lim a b (zB M V lim a b u) ≤ 0) : cmpR M V lim a b = -1 := by
  rw [i32_le, i32_z] at hu
  rw [i32_le, i32_z] at hp
  obtain ⟨h1, h2, h3⟩ := cI_z h (by omega)
  have hz : ¬ zB M V lim a b u = 0 := fun q => by rw [q] at hm; exact hm rfl
  have e2 := mrI_eq (M := M) (V := V) (lim := lim) (a := a) (b := b) hz
  have e3 : ¬ (mrI M V lim a b (zB M V lim a b u)).toInt = 0 := fun q => hm (i32_eq.mpr q)
  have hz2 : ¬ (zB M V lim a b u).toInt = 0 := fun q => hz (i32_eq.mpr q)
  refine cmp_m hB ha hb ⟨(zB M V lim a b u).toInt, by omega, fun v hv => (h3 v hv).symm, ?_⟩
  rw [cj_many, cj_many, h3 _ (by omega)]
  omega
theorem cmp_e (hB : okM M) {a b : Nat} (ha : a < 8) (hb : b < 8) {u : Int32} (h : cI M V lim a b u) (hu : u ≤ 0) : cmpR M V lim a b = 0 := by
  rw [i32_le, i32_z] at hu
  exact cmp_0 hB ha hb (fun v hv => h.2.2 v (by omega) hv)
theorem cmpR_le {a b : Nat} (h : cmpR M V lim a b ≤ 0) : lx6 (srt M V lim a) (srt M V lim b) = false := by
  cases q : lx6 (srt M V lim a) (srt M V lim b)
  · rfl
  · rw [cmpR, if_pos q] at h
    exact absurd h (by decide)
theorem cmpR_gt {a b : Nat} (h : ¬ cmpR M V lim a b ≤ 0) : lx6 (srt M V lim a) (srt M V lim b) = true := by
  cases q : lx6 (srt M V lim a) (srt M V lim b)
  · rw [cmpR, if_neg (by rw [q]; decide)] at h
    split at h
    · exact absurd (by decide) h
    · exact absurd (by decide) h
  · rfl
theorem lgl_pos (hB : okM M) {j r : Nat} (hj : j < 8) (hr : r < 6) (h : lgl M V lim j r = true) : 0 < (M j r).toInt := by
  have := (hB j r hj hr).1
  unfold lgl at h
  split at h
  · cases h
  · rename_i q
    rw [i32_eq, i32_z] at q
    omega
theorem bst_none (hB : okM M) {j : Nat} (hj : j < 8) (h : bstU (lgl M V lim j) (M j) 6 = 0) : ∀ v : Int, 0 < v → cj M V lim j v = 0 := by
  intro v hv
  refine cntB_0 (fun t ht => ?_)
  have h3 := (bst_spec (g := lgl M V lim j) (f := M j) (i := 6)).2.2 t ht
  cases hg : lgl M V lim j t
  · rfl
  · have h3 := h3 hg
    rw [h, i32_z] at h3
    simp
    omega
theorem bst_some (hB : okM M) {j : Nat} (hj : j < 8) (h : ¬ bstU (lgl M V lim j) (M j) 6 = 0) {cb : Int → Nat} (hb : ∀ v : Int, 0 < v → cb v = 0) : AH (cj M V lim j) cb := by
  obtain ⟨h1, h2, h3⟩ := bst_spec (g := lgl M V lim j) (f := M j) (i := 6)
  have hz : ¬ (bstU (lgl M V lim j) (M j) 6).toInt = 0 := fun q => h (i32_eq.mpr q)
  rcases h2 with q | ⟨r, hr, hg, he⟩
  · exact absurd q hz
  · refine ⟨(bstU (lgl M V lim j) (M j) 6).toInt, by omega, fun v hv => ?_, ?_⟩
    · rw [hb v (by omega)]
      refine cntB_0 (fun t ht => ?_)
      have h4 := h3 t ht
      cases hg : lgl M V lim j t
      · rfl
      · have h4 := h4 hg
        simp
        omega
    · rw [hb _ (by omega)]
      exact cntB_pos hr (by simp [hg, he])
theorem cmp_b1 (hB : okM M) {a b : Nat} (ha : a < 8) (hb : b < 8) (h1 : ¬ bstU (lgl M V lim a) (M a) 6 = 0) (h2 : bstU (lgl M V lim b) (M b) 6 = 0) : cmpR M V lim a b = 1 := cmp_1 hB ha hb (bst_some hB ha h1 (bst_none hB hb h2))
theorem cmp_b2 (hB : okM M) {a b : Nat} (ha : a < 8) (hb : b < 8) (h1 : bstU (lgl M V lim a) (M a) 6 = 0) (h2 : ¬ bstU (lgl M V lim b) (M b) 6 = 0) : cmpR M V lim a b = -1 := cmp_m hB ha hb (bst_some hB hb h2 (bst_none hB ha h1))
theorem cmp_b3 (hB : okM M) {a b : Nat} (ha : a < 8) (hb : b < 8) (h1 : bstU (lgl M V lim a) (M a) 6 = 0) (h2 : bstU (lgl M V lim b) (M b) 6 = 0) : cmpR M V lim a b = 0 := cmp_0 hB ha hb (fun v hv => by rw [bst_none hB ha h1 v hv, bst_none hB hb h2 v hv])
/-- who jumps before whom -/
theorem bef_iff (hB : okM M) {a b : Nat} (ha : a < 8) (hb : b < 8) : befR (srt M V lim) a b = true ↔ (AH (cj M V lim b) (cj M V lim a) ∨ ((∀ v, 0 < v → cj M V lim a v = cj M V lim b v) ∧ a < b)) := by
  unfold befR
  rcases cj_tri (V := V) (lim := lim) hB ha hb with q | q | q
  · rw [(lx_t hB ha hb q).1, (lx_t hB ha hb q).2]
    simp
    constructor
    · intro k
      have := lx_t hB hb ha k
      rw [(lx_t hB ha hb q).1] at this
      cases this.2
    · intro k
      have := lx_e hB ha hb k
      rw [(lx_t hB ha hb q).1] at this
      cases this.1
  · rw [(lx_t hB hb ha q).1]
    simp [q]
  · rw [(lx_e hB ha hb q).1, (lx_e hB ha hb q).2]
    simp
    constructor
    · intro k
      exact Or.inr ⟨q, k⟩
    · rintro (k | k)
      · have := lx_t hB hb ha k
        rw [(lx_e hB ha hb q).2] at this
        cases this.1
      · exact k.2
theorem AH_irr {f : Int → Nat} (h : AH f f) : False := by
  obtain ⟨w, _, _, h⟩ := h
  omega
theorem bef_irr (hB : okM M) {a : Nat} (ha : a < 8) : befR (srt M V lim) a a = false := by
  cases q : befR (srt M V lim) a a
  · rfl
  · rw [bef_iff hB ha ha] at q
    rcases q with q | q
    · exact (AH_irr q).elim
    · omega
theorem bef_tr (hB : okM M) {a b d : Nat} (ha : a < 8) (hb : b < 8) (hd : d < 8) (h1 : befR (srt M V lim) a b = true) (h2 : befR (srt M V lim) b d = true) : befR (srt M V lim) a d = true := by
  rw [bef_iff hB ha hb] at h1
  rw [bef_iff hB hb hd] at h2
  rw [bef_iff hB ha hd]
  rcases h1 with p | ⟨p, p'⟩
  · rcases h2 with q | ⟨q, q'⟩
    · exact Or.inl (q.trans p)
    · exact Or.inl (p.congr_l q)
  · rcases h2 with q | ⟨q, q'⟩
    · exact Or.inl (q.congr_r (fun v hv => (p v hv).symm))
    · exact Or.inr ⟨fun v hv => by rw [p v hv, q v hv], by omega⟩
theorem bef_tot (hB : okM M) {a b : Nat} (ha : a < 8) (hb : b < 8) (h : a ≠ b) : befR (srt M V lim) a b = true ∨ befR (srt M V lim) b a = true := by
  rw [bef_iff hB ha hb, bef_iff hB hb ha]
  rcases cj_tri (V := V) (lim := lim) hB ha hb with q | q | q
  · exact Or.inr (Or.inl q)
  · exact Or.inl (Or.inl q)
  · rcases Nat.lt_or_ge a b with k | k
    · exact Or.inl (Or.inr ⟨q, k⟩)
    · exact Or.inr (Or.inr ⟨fun v hv => (q v hv).symm, by omega⟩)
end Cmp
theorem cnt_one {x n : Nat} (h : x < n) : cntB (fun o => decide (o = x)) n = 1 := by
  induction n with
  | zero => omega
  | succ n ih =>
    simp only [cntB]
    rcases Nat.lt_or_ge x n with q | q
    · rw [ih q, if_neg (by simp; omega)]
    · have : x = n := by omega
      subst this
      rw [cntB_0 (fun t ht => by simp; omega)]
      simp
theorem max_ex {lt : Nat → Nat → Bool} {S : Nat → Bool} {n : Nat} (tr : ∀ a b d, a < n → b < n → d < n → lt a b = true → lt b d = true → lt a d = true) (tot : ∀ a b, a < n → b < n → a ≠ b → lt a b = true ∨ lt b a = true) : ∀ i, i ≤ n → 0 < cntB S i → ∃ m, m < i ∧ S m = true ∧ ∀ o, o < i → S o = true → o ≠ m → lt o m = true := by
  intro i
  induction i with
  | zero =>
    intro _ h
    exact absurd h (Nat.lt_irrefl 0)
  | succ i ih =>
    intro hi h
    by_cases q : 0 < cntB S i
    · obtain ⟨m, hm, sm, hx⟩ := ih (by omega) q
      by_cases si : S i = true
      · rcases tot i m (by omega) (by omega) (by omega) with k | k
        · refine ⟨m, by omega, sm, fun o ho so hne => ?_⟩
          rcases Nat.lt_or_ge o i with w | w
          · exact hx o w so hne
          · have : o = i := by omega
            rw [this]; exact k
        · refine ⟨i, by omega, si, fun o ho so hne => ?_⟩
          by_cases w : o = m
          · rw [w]; exact k
          · exact tr o m i (by omega) (by omega) (by omega) (hx o (by omega) so w) k
      · refine ⟨m, by omega, sm, fun o ho so hne => ?_⟩
        rcases Nat.lt_or_ge o i with w | w
        · exact hx o w so hne
        · have : o = i := by omega
          rw [this] at so
          exact absurd so si
    · have hz : cntB S i = 0 := by omega
      have si : S i = true := by
        cases k : S i
        · simp only [cntB, k] at h
          rw [hz] at h
          exact absurd h (by decide)
        · rfl
      refine ⟨i, by omega, si, fun o ho so hne => ?_⟩
      have := cntB_pos (i := i) (t := o) (by omega) so
      omega
theorem rank_on {lt : Nat → Nat → Bool} {n : Nat} (irr : ∀ a, a < n → lt a a = false) (tr : ∀ a b d, a < n → b < n → d < n → lt a b = true → lt b d = true → lt a d = true) (tot : ∀ a b, a < n → b < n → a ≠ b → lt a b = true ∨ lt b a = true) : ∀ (m : Nat) (S : Nat → Bool), cntB S n = m → ∀ k, k < m → ∃ i, i < n ∧ S i = true ∧ cntB (fun o => S o && lt o i) n = k := by
  intro m
  induction m with
  | zero =>
    intro S _ k hk
    omega
  | succ m ih =>
    intro S hS k hk
    obtain ⟨x, hx, sx, hm⟩ := max_ex tr tot n (Nat.le_refl n) (by omega : 0 < cntB S n)
    have e1 : cntB S n = cntB (fun o => S o && !decide (o = x)) n + cntB (fun o => decide (o = x)) n := by
      refine cntB_add (fun t ht => ?_)
      by_cases q : t = x
      · subst q
        simp [sx]
      · simp [q]
    rw [cnt_one hx] at e1
    have e2 : cntB (fun o => S o && !decide (o = x)) n = m := by omega
    rcases Nat.lt_or_ge k m with q | q
    · obtain ⟨i, hi, si, hr⟩ := ih _ e2 k q
      simp at si
      refine ⟨i, hi, si.1, ?_⟩
      rw [← hr]
      refine cntB_congr (fun t ht => ?_)
      by_cases w : t = x
      · subst w
        have h1 := hm i hi si.1 si.2
        have h2 : lt t i = false := by
          cases z : lt t i
          · rfl
          · have := tr t i t hx hi hx z h1
            rw [irr t hx] at this
            cases this
        simp [h2]
      · simp [w]
    · refine ⟨x, hx, sx, ?_⟩
      have : k = m := by omega
      rw [this, ← e2]
      refine cntB_congr (fun t ht => ?_)
      by_cases w : t = x
      · subst w
        simp [irr t hx]
      · cases st : S t
        · simp
        · simp [hm t ht st w, w]
theorem rank_ex {M V : Nat → Nat → Int32} {lim : Int32} (hB : okM M) {n k : Nat} (hn : n ≤ 8) (hk : k < n) : ∃ i, i < n ∧ cntB (fun o => befR (srt M V lim) o i) n = k := by
  obtain ⟨i, hi, _, h⟩ := rank_on (lt := befR (srt M V lim)) (n := n) (fun a ha => bef_irr hB (by omega)) (fun a b d ha hb hd => bef_tr hB (by omega) (by omega) (by omega)) (fun a b ha hb h => bef_tot hB (by omega) (by omega) h) n (fun _ => true) (by
    have : ∀ i, cntB (fun _ => true) i = i := by
      intro i
      induction i with
      | zero => rfl
      | succ i ih => simp only [cntB, ih, if_true]
    exact this n) k hk
  exact ⟨i, hi, by rw [← h]; exact cntB_congr (fun t _ => by simp)⟩
theorem fndI_eq {z z' : Int32} {rk : Nat → Int32} {k : Int32} {n i : Nat} (hi : i < n) (h : rk i = k) : fndI z rk k n = fndI z' rk k n := by
  induction n with
  | zero => omega
  | succ n ih =>
    simp only [fndI]
    split
    · rfl
    · rename_i q
      rcases Nat.lt_or_ge i n with w | w
      · exact ih w
      · have : i = n := by omega
        subst this
        exact absurd h q
theorem aOrder_eq {M V : Nat → Nat → Int32} {lim : Int32} (hB : okM M) {n : Nat} (hn : n ≤ 8) (z z' k : Int32) : aOrder z M V lim n k = aOrder z' M V lim n k := by
  unfold aOrder
  split
  · rename_i h
    obtain ⟨j, hj, rfl⟩ := jmp_of h hn
    obtain ⟨i, hi, e⟩ := rank_ex (V := V) (lim := lim) hB hn hj
    exact fndI_eq hi (by rw [e])
  · rfl
