/-! what the calls mean: numbers, lists of rounds -/
def jmp (n x : Int32) : Bool := if x < 0 then false else if n ≤ x then false else true
def rnd (x : Int32) : Bool := if x < 0 then false else if 6 ≤ x then false else true
def wht (x : Int32) : Bool := if x = 0 then true else if x = 1 then true else false
def hwo (x : Int32) : Bool := if x < 0 then false else if 5 < x then false else true
def mrk (x : Int32) : Bool := if x < 0 then false else if 1200 < x then false else true
def wnd (x : Int32) : Bool := if x < -99 then false else if 100 < x then false else true
def inR (x a b : Int32) : Bool := if x < a then false else if b < x then false else true
def non (w : Int32) : Int32 := if w = 0 then 0 else 100
def nfit (h v o : Int32) : Bool := if h = 0 then decide (v < o) else if h = 1 then decide (v ≤ o) else if h = 2 then decide (o < v) else if h = 3 then decide (o ≤ v) else if h = 4 then decide (v = o) else !decide (v = o)
def fitv (h w v o : Int32) : Bool := if v = non w then decide (h = 5) else if o = non w then decide (h = 5) else nfit h v o
def cde (w v : Int32) : Bool := if w = 0 then mrk v else wnd v
def ask (n h w x : Int32) : Bool := hwo h && (wht w && jmp n x)
def qst (n h w x v : Int32) : Bool := hwo h && (wht w && (jmp n x && cde w v))
def mk (f : Nat → Int32) (j r : Nat) : Int32 := f (6 * j + r)
def vlu (M V : Nat → Nat → Int32) (w : Int32) (j r : Nat) : Int32 := if w = 0 then M j r else V j r
def lgl (M V : Nat → Nat → Int32) (lim : Int32) (j r : Nat) : Bool := if M j r = 0 then false else !fitv 2 1 (V j r) lim
def anyB (q : Nat → Bool) : Nat → Bool
  | 0 => false
  | i + 1 => anyB q i || q i
def cntB (q : Nat → Bool) : Nat → Nat
  | 0 => 0
  | i + 1 => cntB q i + (if q i = true then 1 else 0)
def sumN (f : Nat → Nat) : Nat → Nat
  | 0 => 0
  | i + 1 => sumN f i + f i
def sumI (f : Nat → Int32) : Nat → Int32
  | 0 => 0
  | i + 1 => sumI f i + f i
def lenB (q : Nat → Bool) : Nat → Nat
  | 0 => 0
  | i + 1 => if q i = true then 0 else lenB q i + 1
def mostB (q : Nat → Bool) : Nat → Nat
  | 0 => 0
  | i + 1 => if mostB q i < lenB q (i + 1) then lenB q (i + 1) else mostB q i
def skpF (q : Nat → Bool) : Nat → Nat → Nat
  | 0, i => i
  | k + 1, i => if q i = true then skpF q k (i + 1) else i
def pckF (h w : Int32) (f : Nat → Int32) (v : Int32) : Nat → Int32
  | 0 => v
  | i + 1 => if fitv h w (f i) (pckF h w f v i) = true then f i else pckF h w f v i
def bstU (g : Nat → Bool) (f : Nat → Int32) : Nat → Int32
  | 0 => 0
  | i + 1 => if g i = true then (if bstU g f i < f i then f i else bstU g f i) else bstU g f i
def grtU (g : Nat → Bool) (f : Nat → Int32) (b : Int32) : Nat → Int32
  | 0 => 0
  | i + 1 => if g i = true then (if f i < b then (if grtU g f b i < f i then f i else grtU g f b i) else grtU g f b i) else grtU g f b i
def mvR (row : Nat → Int32) (v : Int32) : Nat → Int32
  | 0 => v
  | t + 1 => if row t < mvR row v t then row t else mvR row v t
def insR (row : Nat → Int32) (v : Int32) (t : Nat) : Int32 := if row t < mvR row v t then mvR row v t else row t
def rowU (g : Nat → Bool) (f : Nat → Int32) : Nat → Nat → Int32
  | 0 => fun _ => 0
  | i + 1 => if g i = true then insR (rowU g f i) (f i) else rowU g f i
def lxF (ra rb : Nat → Int32) : Nat → Nat → Bool
  | 0, _ => false
  | k + 1, i => if ra i = rb i then lxF ra rb k (i + 1) else decide (rb i < ra i)
def lx6 (ra rb : Nat → Int32) : Bool := lxF ra rb 6 0
def bts (f : Nat → Int32) (r : Nat) : Bool := if f r = 0 then false else !anyB (fun e => fitv 3 0 (f e) (f r)) r
def befR (rw : Nat → Nat → Int32) (a b : Nat) : Bool := if lx6 (rw b) (rw a) = true then true else if lx6 (rw a) (rw b) = true then false else decide (a < b)
def fndI (z : Int32) (rk : Nat → Int32) (k : Int32) : Nat → Int32
  | 0 => z
  | i + 1 => if rk i = k then nI i else fndI z rk k i
def ifz (b : Bool) (x : Int32) : Int32 := if b = true then x else 0
/-- the rows of the marks of the legal rounds, the greatest first -/
def srt (M V : Nat → Nat → Int32) (lim : Int32) (j : Nat) : Nat → Int32 := rowU (lgl M V lim j) (M j) 6
/-- the answers -/
def aValue (M V : Nat → Nat → Int32) (n w x r : Int32) : Int32 := if wht w && (jmp n x && rnd r) then vlu M V w x.toNatClampNeg r.toNatClampNeg else -1000
def aFits (M V : Nat → Nat → Int32) (n h w x a b : Int32) : Int32 := if hwo h && (wht w && (jmp n x && (rnd a && rnd b))) then b2i (fitv h w (vlu M V w x.toNatClampNeg a.toNatClampNeg) (vlu M V w x.toNatClampNeg b.toNatClampNeg)) else -1000
def aCount (M V : Nat → Nat → Int32) (n h w x v : Int32) : Int32 := if qst n h w x v then nI (cntB (fun r => fitv h w (vlu M V w x.toNatClampNeg r) v) 6) else -1000
def aTurned (M V : Nat → Nat → Int32) (n h w x v : Int32) : Int32 := if qst n h w x v then nI (cntB (fun r => fitv h w v (vlu M V w x.toNatClampNeg r)) 6) else -1000
def aLongest (M V : Nat → Nat → Int32) (n h w x v : Int32) : Int32 := if qst n h w x v then nI (mostB (fun r => fitv h w (vlu M V w x.toNatClampNeg r) v) 6) else -1000
def aSkip (M V : Nat → Nat → Int32) (n h w x f v : Int32) : Int32 := if qst n h w x v && rnd f then nI (skpF (fun r => fitv h w (vlu M V w x.toNatClampNeg r) v) (6 - f.toNatClampNeg) f.toNatClampNeg) else -1000
def aPick (M V : Nat → Nat → Int32) (n h w x v : Int32) : Int32 := if qst n h w x v then pckF h w (vlu M V w x.toNatClampNeg) v 6 else -1000
def aBest (M V : Nat → Nat → Int32) (lim n x : Int32) : Int32 := if jmp n x then bstU (lgl M V lim x.toNatClampNeg) (M x.toNatClampNeg) 6 else -1000
def aAhead (M V : Nat → Nat → Int32) (lim n x y : Int32) : Int32 := if jmp n x && jmp n y then b2i (lx6 (srt M V lim x.toNatClampNeg) (srt M V lim y.toNatClampNeg)) else -1000
def aPlace (M V : Nat → Nat → Int32) (lim : Int32) (n : Nat) (x : Int32) : Int32 := if jmp (nI n) x then (if bstU (lgl M V lim x.toNatClampNeg) (M x.toNatClampNeg) 6 = 0 then 0 else nI (cntB (fun o => lx6 (srt M V lim o) (srt M V lim x.toNatClampNeg)) n) + 1) else -1000
def aOrder (z : Int32) (M V : Nat → Nat → Int32) (lim : Int32) (n : Nat) (k : Int32) : Int32 := if jmp (nI n) k then fndI z (fun j => nI (cntB (fun o => befR (srt M V lim) o j) n)) k n else -1000
def vdt (M V : Nat → Nat → Int32) (rec lim : Int32) (j r : Nat) : Int32 :=
  ((((((ifz (!decide (M j r = 0)) 1 + ifz (!decide (V j r = 100)) 2) + ifz (lgl M V lim j r) 4) + ifz (fitv 3 0 (M j r) rec) 8) + ifz (fitv 2 0 (M j r) rec) 16) + ifz (fitv 4 0 (M j r) rec) 32) + ifz (fitv 1 1 (V j r) lim) 64) + ifz (bts (M j) r) 128
def aVerdict (M V : Nat → Nat → Int32) (rec lim n x r : Int32) : Int32 := if jmp n x && rnd r then vdt M V rec lim x.toNatClampNeg r.toNatClampNeg else -1000
/-- small rows -/
theorem jmp_of {n : Nat} {x : Int32} (h : jmp (nI n) x = true) (hn : n ≤ 8) : ∃ j : Nat, j < n ∧ x = nI j := by
  unfold jmp at h
  split at h
  · cases h
  · split at h
    · cases h
    · rename_i h1 h2
      obtain ⟨j, hj, rfl⟩ := nI_of h1
      exact ⟨j, Nat.not_le.mp (fun q => h2 (nI_le q hj)), rfl⟩
theorem rnd_of {x : Int32} (h : rnd x = true) : ∃ j : Nat, j < 6 ∧ x = nI j := by
  unfold rnd at h
  split at h
  · cases h
  · split at h
    · cases h
    · rename_i h1 h2
      obtain ⟨j, hj, rfl⟩ := nI_of h1
      exact ⟨j, Nat.not_le.mp (fun q => h2 (nI_le (a := 6) q hj)), rfl⟩
theorem hwo_of {x : Int32} (h : hwo x = true) : ∃ j : Nat, j < 6 ∧ x = nI j := by
  unfold hwo at h
  split at h
  · cases h
  · split at h
    · cases h
    · rename_i h1 h2
      obtain ⟨j, hj, rfl⟩ := nI_of h1
      exact ⟨j, Nat.not_le.mp (fun q => h2 (nI_lt (a := 5) q hj)), rfl⟩
theorem jmp_nI {n j : Nat} (hj : j < n) (hn : n < 2 ^ 31) : jmp (nI n) (nI j) = true := by
  unfold jmp
  rw [if_neg (nI_pos (by omega)), if_neg (nI_ge hj hn)]
theorem rnd_nI {j : Nat} (hj : j < 6) : rnd (nI j) = true := by
  unfold rnd
  rw [if_neg (nI_pos (by omega)), if_neg (show ¬ (6 : Int32) ≤ nI j from nI_ge (b := 6) hj (by decide))]
theorem nI_mul6 (j r : Nat) : nI j * 6 + nI r = nI (6 * j + r) := by
  rw [show (6 : Int32) = nI 6 from rfl, pk_mul, nI_add, Nat.mul_comm]
theorem nI_6mul (j r : Nat) : 6 * nI j + nI r = nI (6 * j + r) := by
  rw [show (6 : Int32) = nI 6 from rfl, pk_mul, nI_add]
section QA
variable {p : Program} {l : Launch} {e : Env} {R : Room} {s : State} {m : MethodId} {args : Array Value} {below : List Frame} {meth : Method} {c : Code} {H H0 : Heap} {locs : List Loc} {cells slots : Nat} {Q : State → Prop} {cc : ByteArray} {pc : Nat} {ls : Array Slot} {rest : List Value} {D : va_G} {cl : List vw_C} {tys : List (ClassId × FieldType)} {ws : va_W} {A : Nat → Prop} {a : Nat}
theorem q_ald (hx : p.tables.exec = Jvm.exec) (hb : c.code = cc) (hK : va_K D cl tys s) (hP : va_P D cl ws H) (q0 t0 : Nat) {cA : ClassId} {n : Nat} {f : Nat → Int32} (ha : ws[q0]? = some (a, .inl (cA, n, .inl f))) (ht : tys[t0]? = some (cA, .int)) {k : Nat} (hk : k < n) (hn : n < 2 ^ 31) (hdg : decode cc pc = .ok (.iaload, 1))
    (kk : W p l e R s m args below meth c H locs cells slots Q (F0 m (pc + 1) ls (.int (f k) :: rest))) : W p l e R s m args below meth c H locs cells slots Q (F0 m pc ls (.int (nI k) :: .ref a :: rest)) :=
  va_iald hx hb hK hP q0 t0 ha ht (vp_in_nI hk hn) hdg (by rw [nI_clamp (by omega)]; exact kk)
theorem q_ast (hx : p.tables.exec = Jvm.exec) (hb : c.code = cc) (hK : va_K D cl tys s) (hP : va_P D cl ws H) (hD : va_D A ws) (hS : va_S A H0 H locs) (q0 t0 : Nat) {cA : ClassId} {n : Nat} {f : Nat → Int32} (ha : ws[q0]? = some (a, .inl (cA, n, .inl f))) (ht : tys[t0]? = some (cA, .int)) {k : Nat} {x : Int32} (hk : k < n) (hn : n < 2 ^ 31) (hdg : decode cc pc = .ok (.iastore, 1))
    (kk : ∀ (H : Heap) (locs : List Loc), va_P D cl (ws.set q0 (a, .inl (cA, n, .inl (upd f k x)))) H → va_D A (ws.set q0 (a, .inl (cA, n, .inl (upd f k x)))) → va_S A H0 H locs → W p l e R s m args below meth c H locs cells slots Q (F0 m (pc + 1) ls rest)) : W p l e R s m args below meth c H locs cells slots Q (F0 m pc ls (.int x :: .int (nI k) :: .ref a :: rest)) :=
  va_iast hx hb hK hP hD hS q0 t0 ha ht (vp_in_nI hk hn) hdg (by rw [nI_clamp (by omega)]; exact kk)
end QA
/-- the cells of a JumpBoard -/
abbrev wX (h qb qj qm qw qr : Nat) (cA : ClassId) (n rec lim : Int32) (fb fj fm fw fr : Nat → Int32) : va_W := [(h, .inr (0, [.int n, .int rec, .int lim, .ref qb, .ref qj, .ref qm, .ref qw, .ref qr])), (qb, .inl (cA, 8, .inl fb)), (qj, .inl (cA, 8, .inl fj)), (qm, .inl (cA, 48, .inl fm)), (qw, .inl (cA, 48, .inl fw)), (qr, .inl (cA, 48, .inl fr))]
/-- the cells of a JumpBoardModel -/
abbrev wY (h qb qj qm qw qt : Nat) (cA : ClassId) (n rec lim : Int32) (fb fj fm fw ft : Nat → Int32) : va_W := [(h, .inr (1, [.ref qb, .ref qj, .ref qm, .ref qw, .ref qt, .int n, .int rec, .int lim])), (qb, .inl (cA, 8, .inl fb)), (qj, .inl (cA, 8, .inl fj)), (qm, .inl (cA, 48, .inl fm)), (qw, .inl (cA, 48, .inl fw)), (qt, .inl (cA, 6, .inl ft))]
