/-! rules of my own over the kit: the answer of a boolean, joins, calls that only read, calls that write, loops -/
def b2i (b : Bool) : Int32 := if b = true then 1 else 0
theorem b2i_0 {b : Bool} (h : b2i b = 0) : b = false := by
  cases b
  · rfl
  · exact absurd h (by decide)
theorem b2i_n {b : Bool} (h : ¬ b2i b = 0) : b = true := by
  cases b
  · exact absurd rfl h
  · rfl
theorem b2i_t : b2i true = 1 := rfl
theorem b2i_f : b2i false = 0 := rfl
theorem b2i_nar (b : Bool) : narrow .boolean (.int (b2i b)) = .int (b2i b) := by cases b <;> rfl
section QR
variable {p : Program} {l : Launch} {e : Env} {R : Room} {s : State} {m : MethodId} {args : Array Value} {below : List Frame} {meth : Method} {c : Code} {H : Heap} {locs : List Loc} {cells slots : Nat} {Q : State → Prop} {cc : ByteArray} {pc nL : Nat} {ls : Array Slot} {rest st0 : List Value} {Ts : List Cond} {own : String}
theorem q_top {x y : Int32} (h : x = y) (k : W p l e R s m args below meth c H locs cells slots Q (F0 m pc ls (.int y :: rest))) : W p l e R s m args below meth c H locs cells slots Q (F0 m pc ls (.int x :: rest)) := h ▸ k
theorem q_jn {pj : Nat} {v : Int32} (k : W p l e R s m args below meth c H locs cells slots Q (F0 m pj ls (.int v :: rest))) (b : W p l e R s m args below meth c H locs cells slots Q (F0 m pj ls (.int v :: rest)) → W p l e R s m args below meth c H locs cells slots Q (F0 m pc ls st0)) : W p l e R s m args below meth c H locs cells slots Q (F0 m pc ls st0) := b k
theorem q_ri {v r : Int32} (hx : p.tables.exec = Jvm.exec) (hb : c.code = cc) (hr : meth.sig.returnType = some .int) (hlk : meth.locks = false) (h : v = r) (hd : decode cc pc = .ok (.ireturn, 1)) : W p l e R s m args below meth c s.heap [] 0 0 (MQ below (QcRead r) args s 0 0 (fun _ => False)) (F0 m pc ls [.int v]) := by
  subst h
  exact W.iret hx hb hr (fun t ht _ => ⟨rfl, ht⟩) (fun _ h => by cases h) hd hlk
theorem q_rb {v : Int32} {b : Bool} (hx : p.tables.exec = Jvm.exec) (hb : c.code = cc) (hr : meth.sig.returnType = some .boolean) (hlk : meth.locks = false) (h : v = b2i b) (hd : decode cc pc = .ok (.ireturn, 1)) : W p l e R s m args below meth c s.heap [] 0 0 (MQ below (QcRead (b2i b)) args s 0 0 (fun _ => False)) (F0 m pc ls [.int v]) := by
  subst h
  exact W.zret hx hb hr (b2i_nar b) (fun t ht _ => ⟨rfl, ht⟩) (fun _ h => by cases h) hd hlk
/-- a static method that only reads -/
theorem q_cs {y : MethodName} {ws ws' : List Cond} {bytes : ByteArray} {maxL index n : Nat} {ret : Option FieldType} {rm : Room} (av : List Value) {r : Int32}
    (F : CallFix p m c cc nL s args Ts own) (hM : Met l y ws rm (va_Pc av (fun _ => True)) (QcRead r) 0 0 (fun _ => False)) (hG : GoodIn Ts (va_wsS own index y ws)) (hw : ws = Cond.code y bytes maxL ret :: ws') (hrc : rm.cells = 0) (hrs : rm.slots = 0)
    (hd : y.cls ≠ "java/lang/invoke/MethodHandle" ∧ y.cls ≠ "java/lang/invoke/VarHandle" ∧ (parseMethodDescriptor y.desc).map (fun d => d.parameters.length) = some n) (hR : rm.frames + 1 ≤ R.frames ∧ 8 + (maxL + 11) + rm.locals ≤ R.locals) (hn : av.length = n)
    (hsz : ls.size = nL) (hst : st0 = av.reverse ++ rest) (hW : (rest.map fun v => v.category).sum ≤ 8) (hdg : decode cc pc = .ok (.invokestatic index, 3)) (hcs : cells ≤ R.cells ∧ slots ≤ R.slots)
    (kk : W p l e R s m args below meth c H locs cells slots Q (F0 m (pc + 3) ls (.int r :: rest))) : W p l e R s m args below meth c H locs cells slots Q (F0 m pc ls st0) :=
  W.callR (va_Run.run (va_runS F hM (va_cwS n F.2.2.2.2 hG hw hrc hrs hd hR) ⟨fun _ _ _ _ q => q, fun U _ _ => ⟨rfl, trivial⟩⟩ rfl hn hsz hst (lv_room hW) hdg hcs)) kk
/-- a method of an object that only reads -/
theorem q_cv {y : MethodName} {ws ws' : List Cond} {bytes : ByteArray} {maxL index n : Nat} {ret : Option FieldType} {rm : Room} {D : va_G} {cl : List vw_C} {tys : List (ClassId × FieldType)} {wx : va_W} {h ci : Nat} {C : String} {T : u_T} {N : Nat} {fs : List Value} (av : List Value) {r : Int32}
    (F : CallFix p m c cc nL s args Ts own) (hM : Met l y ws rm (va_Pc (.ref h :: av) (fun U => va_P D cl wx U.heap ∧ va_K D cl tys U)) (QcRead r) 0 0 (fun _ => False)) (hG : GoodIn Ts (wsV own index C y ws)) (hw : ws = Cond.code y bytes maxL ret :: ws') (hrc : rm.cells = 0) (hrs : rm.slots = 0)
    (hd : y.cls = C ∧ y.cls ≠ "java/lang/invoke/MethodHandle" ∧ y.cls ≠ "java/lang/invoke/VarHandle" ∧ (parseMethodDescriptor y.desc).map (fun d => d.parameters.length) = some n) (hR : rm.frames + 1 ≤ R.frames ∧ 8 + (maxL + 11) + rm.locals ≤ R.locals) (hn : av.length = n)
    (hK : va_K D cl tys s) (hP : va_P D cl wx H) (he : wx[0]? = some (h, .inr (ci, fs))) (hc : cl[ci]? = some (C, T, N))
    (hsz : ls.size = nL) (hst : st0 = av.reverse ++ .ref h :: rest) (hW : (rest.map fun v => v.category).sum ≤ 8) (hdg : decode cc pc = .ok (.invokevirtual index, 3)) (hcs : cells ≤ R.cells ∧ slots ≤ R.slots)
    (kk : W p l e R s m args below meth c H locs cells slots Q (F0 m (pc + 3) ls (.int r :: rest))) : W p l e R s m args below meth c H locs cells slots Q (F0 m pc ls st0) :=
  W.callR (va_Run.run (va_runV (As := av) F hM (cwV n F.2.2.2.2 hG hw hrc hrs hd hR) ⟨fun a U g mk q => by obtain ⟨q0, qP, qK⟩ := q; exact ⟨q0, qP, va_K.moved (u := U) (U := U.calling g mk a) (Vm.Alike.refl U.vm) qK⟩, va_recv hK hP hc he, fun U hU hW => ⟨rfl, by rw [hU]; exact hP, va_K.moved hW.alike hK⟩⟩ rfl hn hsz hst (lv_room hW) hdg hcs)) kk
/-- the start and the end of a method that writes into its object's cells -/
def qPw (D : va_G) (cl : List vw_C) (tys : List (ClassId × FieldType)) (w0 : va_W) (sz : Nat) : State → Prop := fun U => U.heap.size = sz ∧ va_P D cl w0 U.heap ∧ va_K D cl tys U ∧ va_D (fun _ => True) w0
def qBw (D : va_G) (cl : List vw_C) (tys : List (ClassId × FieldType)) (w0 w1 : va_W) (sz : Nat) : State → Prop := fun t => va_P D cl w1 t.heap ∧ va_K D cl tys t ∧ va_D (va_A w0 sz) w1
theorem q_fA {A0 : Nat → Prop} {w0 : va_W} {H0 : Heap} (hD : va_D A0 w0) (hS : va_S A0 H0 H locs) (hA : ∀ q, H0.size ≤ q → A0 q) : ∀ q, va_A w0 H.size q → A0 q := by
  intro q h
  rcases h with ⟨k, e, h⟩ | h
  · exact hD.2 k (q, e) h
  · exact hA q (Nat.le_trans hS.1 h)
/-- a method of an object that writes there and answers an int; its cells are all that the caller holds -/
theorem q_cwi {σ : Type} {y : MethodName} {ws ws' : List Cond} {bytes : ByteArray} {maxL index n : Nat} {ret : Option FieldType} {rm : Room} {D : va_G} {cl : List vw_C} {tys : List (ClassId × FieldType)} {w0 : va_W} {w1 : σ → va_W} {h ci : Nat} {C : String} {T : u_T} {N : Nat} {fs : List Value} (av : List Value) {post : Int32 → σ → Prop} {A0 : Nat → Prop}
    (F : CallFix p m c cc nL s args Ts own) (hM : Met l y ws rm (va_Pc (.ref h :: av) (qPw D cl tys w0 H.size)) (va_Qi post (fun u => qBw D cl tys w0 (w1 u) H.size) (va_A w0 H.size)) 0 0 (va_A w0 H.size)) (hG : GoodIn Ts (wsV own index C y ws)) (hw : ws = Cond.code y bytes maxL ret :: ws') (hrc : rm.cells = 0) (hrs : rm.slots = 0)
    (hd : y.cls = C ∧ y.cls ≠ "java/lang/invoke/MethodHandle" ∧ y.cls ≠ "java/lang/invoke/VarHandle" ∧ (parseMethodDescriptor y.desc).map (fun d => d.parameters.length) = some n) (hR : rm.frames + 1 ≤ R.frames ∧ 8 + (maxL + 11) + rm.locals ≤ R.locals) (hn : av.length = n)
    (hK : va_K D cl tys s) (hP : va_P D cl w0 H) (hD : va_D A0 w0) (hS : va_S A0 s.heap H locs) (hA : ∀ q, s.heap.size ≤ q → A0 q) (he : w0[0]? = some (h, .inr (ci, fs))) (hc : cl[ci]? = some (C, T, N))
    (hsz : ls.size = nL) (hst : st0 = av.reverse ++ .ref h :: rest) (hW : (rest.map fun v => v.category).sum ≤ 8) (hdg : decode cc pc = .ok (.invokevirtual index, 3)) (hcs : cells ≤ R.cells ∧ slots ≤ R.slots)
    (kk : ∀ (r : Int32) (u : σ) (H : Heap) (locs : List Loc), post r u → va_P D cl (w1 u) H → va_D A0 (w1 u) → va_S A0 s.heap H locs → W p l e R s m args below meth c H locs cells slots Q (F0 m (pc + 3) ls (.int r :: rest))) : W p l e R s m args below meth c H locs cells slots Q (F0 m pc ls st0) := by
  have hF := q_fA hD hS hA
  refine va_calli (va_runV (As := av) F hM (cwV n F.2.2.2.2 hG hw hrc hrs hd hR) ⟨fun a U g mk q => ?_, va_recv hK hP hc he, fun U hU hW => ⟨rfl, by rw [hU], by rw [hU]; exact hP, va_K.moved hW.alike hK, hD.weaken (fun _ _ _ _ => trivial)⟩⟩ rfl hn hsz hst (lv_room hW) hdg hcs) hS (fun q _ h => hF q h) hF (fun r u t H1 locs1 ht hvm hw hB hz1 hk1 hS1 => ?_)
  · obtain ⟨q0, q1, qP, qK, qD⟩ := q
    exact ⟨q0, q1, qP, va_K.moved (u := U) (U := U.calling g mk a) (Vm.Alike.refl U.vm) qK, qD⟩
  · obtain ⟨hP1, hK1, hD1⟩ := hB
    rw [ht] at hP1
    exact kk r u H1 locs1 hw hP1 (hD1.weaken (fun k q _ h => hF q.1 h)) hS1
theorem q_cwv {σ : Type} {y : MethodName} {ws ws' : List Cond} {bytes : ByteArray} {maxL index n : Nat} {ret : Option FieldType} {rm : Room} {D : va_G} {cl : List vw_C} {tys : List (ClassId × FieldType)} {w0 : va_W} {w1 : σ → va_W} {h ci : Nat} {C : String} {T : u_T} {N : Nat} {fs : List Value} (av : List Value) {post : σ → Prop} {A0 : Nat → Prop}
    (F : CallFix p m c cc nL s args Ts own) (hM : Met l y ws rm (va_Pc (.ref h :: av) (qPw D cl tys w0 H.size)) (va_Qv post (fun u => qBw D cl tys w0 (w1 u) H.size) (va_A w0 H.size)) 0 0 (va_A w0 H.size)) (hG : GoodIn Ts (wsV own index C y ws)) (hw : ws = Cond.code y bytes maxL ret :: ws') (hrc : rm.cells = 0) (hrs : rm.slots = 0)
    (hd : y.cls = C ∧ y.cls ≠ "java/lang/invoke/MethodHandle" ∧ y.cls ≠ "java/lang/invoke/VarHandle" ∧ (parseMethodDescriptor y.desc).map (fun d => d.parameters.length) = some n) (hR : rm.frames + 1 ≤ R.frames ∧ 8 + (maxL + 11) + rm.locals ≤ R.locals) (hn : av.length = n)
    (hK : va_K D cl tys s) (hP : va_P D cl w0 H) (hD : va_D A0 w0) (hS : va_S A0 s.heap H locs) (hA : ∀ q, s.heap.size ≤ q → A0 q) (he : w0[0]? = some (h, .inr (ci, fs))) (hc : cl[ci]? = some (C, T, N))
    (hsz : ls.size = nL) (hst : st0 = av.reverse ++ .ref h :: rest) (hW : (rest.map fun v => v.category).sum ≤ 8) (hdg : decode cc pc = .ok (.invokevirtual index, 3)) (hcs : cells ≤ R.cells ∧ slots ≤ R.slots)
    (kk : ∀ (u : σ) (H : Heap) (locs : List Loc), post u → va_P D cl (w1 u) H → va_D A0 (w1 u) → va_S A0 s.heap H locs → W p l e R s m args below meth c H locs cells slots Q (F0 m (pc + 3) ls rest)) : W p l e R s m args below meth c H locs cells slots Q (F0 m pc ls st0) := by
  have hF := q_fA hD hS hA
  refine va_callv (va_runV (As := av) F hM (cwV n F.2.2.2.2 hG hw hrc hrs hd hR) ⟨fun a U g mk q => ?_, va_recv hK hP hc he, fun U hU hW => ⟨rfl, by rw [hU], by rw [hU]; exact hP, va_K.moved hW.alike hK, hD.weaken (fun _ _ _ _ => trivial)⟩⟩ rfl hn hsz hst (lv_room hW) hdg hcs) hS (fun q _ h => hF q h) hF (fun u t H1 locs1 ht hvm hw hB hz1 hk1 hS1 => ?_)
  · obtain ⟨q0, q1, qP, qK, qD⟩ := q
    exact ⟨q0, q1, qP, va_K.moved (u := U) (U := U.calling g mk a) (Vm.Alike.refl U.vm) qK, qD⟩
  · obtain ⟨hP1, hK1, hD1⟩ := hB
    rw [ht] at hP1
    exact kk u H1 locs1 hw hP1 (hD1.weaken (fun k q _ h => hF q.1 h)) hS1
/-- the ends of a method that writes -/
theorem q_wi {σ : Type} {D : va_G} {cl : List vw_C} {tys : List (ClassId × FieldType)} {w0 : va_W} {w1 : σ → va_W} {post : Int32 → σ → Prop} {v : Int32} (u : σ) (hx : p.tables.exec = Jvm.exec) (hb : c.code = cc) (hr : meth.sig.returnType = some .int) (hlk : meth.locks = false) (hK : va_K D cl tys s) (hP : va_P D cl (w1 u) H) (hD : va_D (va_A w0 s.heap.size) (w1 u)) (hS : va_S (va_A w0 s.heap.size) s.heap H locs) (h : post v u) (hd : decode cc pc = .ok (.ireturn, 1)) :
    W p l e R s m args below meth c H locs 0 0 (MQ below (va_Qi post (fun u => qBw D cl tys w0 (w1 u) s.heap.size) (va_A w0 s.heap.size)) args s 0 0 (va_A w0 s.heap.size)) (F0 m pc ls [.int v]) :=
  W.iret hx hb hr (fun t ht hW => ⟨⟨v, u, rfl, h, by rw [ht]; exact hP, va_K.moved hW.alike hK, hD⟩, hS.F ht⟩) hS.2.2 hd hlk
theorem q_wv {σ : Type} {D : va_G} {cl : List vw_C} {tys : List (ClassId × FieldType)} {w0 : va_W} {w1 : σ → va_W} {post : σ → Prop} (u : σ) (hx : p.tables.exec = Jvm.exec) (hb : c.code = cc) (hr : meth.sig.returnType = none) (hlk : meth.locks = false) (hK : va_K D cl tys s) (hP : va_P D cl (w1 u) H) (hD : va_D (va_A w0 s.heap.size) (w1 u)) (hS : va_S (va_A w0 s.heap.size) s.heap H locs) (h : post u) (hd : decode cc pc = .ok (.return_, 1)) :
    W p l e R s m args below meth c H locs 0 0 (MQ below (va_Qv post (fun u => qBw D cl tys w0 (w1 u) s.heap.size) (va_A w0 s.heap.size)) args s 0 0 (va_A w0 s.heap.size)) (F0 m pc ls []) :=
  W.vret hx hb hr (fun t ht hW => ⟨⟨u, rfl, h, by rw [ht]; exact hP, va_K.moved hW.alike hK, hD⟩, hS.F ht⟩) hS.2.2 hd hlk
/-- a loop of N rounds that only reads -/
theorem q_lp {head : Nat} (N : Nat) (L : Nat → List (Nat × Value)) (I : Nat → Prop) (i0 : Nat) (h0 : i0 ≤ N) (hI : I i0) (hl : lv_has ls nL (L i0))
    (step : ∀ i, i < N → I i → (I (i + 1) → ∀ ls, lv_has ls nL (L (i + 1)) → W p l e R s m args below meth c H locs cells slots Q (F0 m head ls [])) → ∀ ls, lv_has ls nL (L i) → W p l e R s m args below meth c H locs cells slots Q (F0 m head ls []))
    (fin : I N → ∀ ls, lv_has ls nL (L N) → W p l e R s m args below meth c H locs cells slots Q (F0 m head ls [])) : W p l e R s m args below meth c H locs cells slots Q (F0 m head ls []) := by
  have key : ∀ k i, i + k = N → I i → ∀ ls, lv_has ls nL (L i) → W p l e R s m args below meth c H locs cells slots Q (F0 m head ls []) := by
    intro k
    induction k with
    | zero =>
      intro i h hi ls hl
      have h : i = N := by omega
      subst h
      exact fin hi ls hl
    | succ k ih => exact fun i h hi => step i (by omega) hi (fun h1 => ih (i + 1) (by omega) h1)
  exact key (N - i0) i0 (by omega) hI ls hl
/-- a loop by a measure that only reads -/
theorem q_lm {head : Nat} {σ : Type} (μ : σ → Nat) (L : σ → List (Nat × Value)) (I : σ → Prop) (u0 : σ) (hI : I u0) (hl : lv_has ls nL (L u0))
    (step : ∀ u, I u → (∀ u', I u' → μ u' < μ u → ∀ ls, lv_has ls nL (L u') → W p l e R s m args below meth c H locs cells slots Q (F0 m head ls [])) → ∀ ls, lv_has ls nL (L u) → W p l e R s m args below meth c H locs cells slots Q (F0 m head ls [])) : W p l e R s m args below meth c H locs cells slots Q (F0 m head ls []) := by
  have key : ∀ k u, μ u < k → I u → ∀ ls, lv_has ls nL (L u) → W p l e R s m args below meth c H locs cells slots Q (F0 m head ls []) := by
    intro k
    induction k with
    | zero => exact fun u h => absurd h (Nat.not_lt_zero _)
    | succ k ih => exact fun u h hi => step u hi (fun u' h1 h2 => ih u' (by omega) h1)
  exact key (μ u0 + 1) u0 (by omega) hI ls hl
/-- a loop of N rounds that writes -/
theorem q_lw {head : Nat} {σ : Type} {D : va_G} {cl : List vw_C} {A : Nat → Prop} {H0 : Heap} (N : Nat) (L : Nat → σ → List (Nat × Value)) (I : Nat → σ → Prop) (w : σ → va_W) (i0 : Nat) (u0 : σ) (h0 : i0 ≤ N) (hI : I i0 u0) (hP : va_P D cl (w u0) H) (hD : va_D A (w u0)) (hS : va_S A H0 H locs) (hl : lv_has ls nL (L i0 u0))
    (step : ∀ i u, i < N → I i u → (∀ u' H locs ls, I (i + 1) u' → va_P D cl (w u') H → va_D A (w u') → va_S A H0 H locs → lv_has ls nL (L (i + 1) u') → W p l e R s m args below meth c H locs cells slots Q (F0 m head ls [])) → ∀ H locs ls, va_P D cl (w u) H → va_D A (w u) → va_S A H0 H locs → lv_has ls nL (L i u) → W p l e R s m args below meth c H locs cells slots Q (F0 m head ls []))
    (fin : ∀ u H locs ls, I N u → va_P D cl (w u) H → va_D A (w u) → va_S A H0 H locs → lv_has ls nL (L N u) → W p l e R s m args below meth c H locs cells slots Q (F0 m head ls [])) : W p l e R s m args below meth c H locs cells slots Q (F0 m head ls []) := by
  have key : ∀ k i u, i + k = N → I i u → ∀ H locs ls, va_P D cl (w u) H → va_D A (w u) → va_S A H0 H locs → lv_has ls nL (L i u) → W p l e R s m args below meth c H locs cells slots Q (F0 m head ls []) := by
    intro k
    induction k with
    | zero =>
      intro i u h hi H locs ls hP hD hS hl
      have h : i = N := by omega
      subst h
      exact fin u H locs ls hi hP hD hS hl
    | succ k ih => exact fun i u h hi => step i u (by omega) hi (fun u' H locs ls h1 a b c d => ih (i + 1) u' (by omega) h1 H locs ls a b c d)
  exact key (N - i0) i0 u0 (by omega) hI H locs ls hP hD hS hl
end QR
theorem q_hl {ls : Array Slot} {nL : Nat} {a b : List (Nat × Value)} (h : lv_has ls nL a) (e : a = b) : lv_has ls nL b := e ▸ h
theorem q_ce {i : Nat} {x y : Int32} {a b : List (Nat × Value)} (h : x = y) (t : a = b) : (i, Value.int x) :: a = (i, Value.int y) :: b := by rw [h, t]
theorem q_ck {v : Nat × Value} {a b : List (Nat × Value)} (t : a = b) : v :: a = v :: b := by rw [t]
