/-! THE TYPED WORLD: every address of ours has a kind (τ; 0 = not ours), contents by address -/
def cel (a : Nat → Nat) (k : Nat → ClassId) (τ ln : Nat → Nat) (y : Nat → Nat → Int32) (g : Nat → Nat → Option Nat) (q : Nat) : va_E := cl_ a k (ln q) (y q) (g q) (τ q)
def tw (D : va_G) (a : Nat → Nat) (k : Nat → ClassId) (τ ln : Nat → Nat) (y : Nat → Nat → Int32) (g : Nat → Nat → Option Nat) (H : Heap) : Prop := ∀ q : Nat, τ q ≠ 0 → va_at D vwCl (q, cel a k τ ln y g q) H
def fr (τ : Nat → Nat) (sz : Nat) : Nat → Prop := fun q => τ q ≠ 0 ∨ sz ≤ q
def up2 (y : Nat → Nat → Int32) (q i : Nat) (x : Int32) : Nat → Nat → Int32 := fun z => if z = q then upd (y q) i x else y z
def upg (g : Nat → Nat → Option Nat) (q i : Nat) (x : Option Nat) : Nat → Nat → Option Nat := fun z => if z = q then va_up (g q) i x else g z
def nwy (y : Nat → Nat → Int32) (q : Nat) (f : Nat → Int32) : Nat → Nat → Int32 := fun z => if z = q then f else y z
def nwg (g : Nat → Nat → Option Nat) (q : Nat) : Nat → Nat → Option Nat := fun z => if z = q then (fun _ => none) else g z
def nwt (τ : Nat → Nat) (q t : Nat) : Nat → Nat := fun z => if z = q then t else τ z
theorem up2_i {y : Nat → Nat → Int32} {q i : Nat} {x : Int32} : up2 y q i x q i = x := by unfold up2; rw [if_pos rfl]; exact if_pos rfl
theorem up2_o {y : Nat → Nat → Int32} {q i : Nat} {x : Int32} {z : Nat} (h : z ≠ q) : up2 y q i x z = y z := if_neg h
theorem up2_e {y : Nat → Nat → Int32} {q i j : Nat} {x : Int32} (h : j ≠ i) : up2 y q i x q j = y q j := by unfold up2; rw [if_pos rfl]; exact if_neg h
theorem up2_q {y : Nat → Nat → Int32} {q i : Nat} {x : Int32} : up2 y q i x q = upd (y q) i x := if_pos rfl
theorem upg_i {g : Nat → Nat → Option Nat} {q i : Nat} {x : Option Nat} : upg g q i x q i = x := by unfold upg; rw [if_pos rfl]; exact if_pos rfl
theorem upg_o {g : Nat → Nat → Option Nat} {q i : Nat} {x : Option Nat} {z : Nat} (h : z ≠ q) : upg g q i x z = g z := if_neg h
theorem upg_e {g : Nat → Nat → Option Nat} {q i j : Nat} {x : Option Nat} (h : j ≠ i) : upg g q i x q j = g q j := by unfold upg; rw [if_pos rfl]; exact if_neg h
theorem upg_q {g : Nat → Nat → Option Nat} {q i : Nat} {x : Option Nat} : upg g q i x q = va_up (g q) i x := if_pos rfl
theorem nwt_i {τ : Nat → Nat} {q t : Nat} : nwt τ q t q = t := if_pos rfl
theorem nwt_o {τ : Nat → Nat} {q t z : Nat} (h : z ≠ q) : nwt τ q t z = τ z := if_neg h
theorem nwy_i {y : Nat → Nat → Int32} {q : Nat} {f : Nat → Int32} : nwy y q f q = f := if_pos rfl
theorem nwy_o {y : Nat → Nat → Int32} {q z : Nat} {f : Nat → Int32} (h : z ≠ q) : nwy y q f z = y z := if_neg h
theorem nwg_i {g : Nat → Nat → Option Nat} {q : Nat} : nwg g q q = fun _ => none := if_pos rfl
theorem nwg_o {g : Nat → Nat → Option Nat} {q z : Nat} (h : z ≠ q) : nwg g q z = g z := if_neg h
/-- what has not changed: all but the kinds of S -/
def ag (τ : Nat → Nat) (S : List Nat) (y y' : Nat → Nat → Int32) : Prop := ∀ q : Nat, τ q ∉ S → y' q = y q
theorem ag.rf {τ : Nat → Nat} {S : List Nat} {y : Nat → Nat → Int32} : ag τ S y y := fun _ _ => rfl
theorem ag.up {τ : Nat → Nat} {S : List Nat} {y0 y : Nat → Nat → Int32} {q t i : Nat} {x : Int32} (h : ag τ S y0 y) (ht : τ q = t) (hS : t ∈ S) : ag τ S y0 (up2 y q i x) := fun z hz => by
  rw [up2_o (fun e => hz (by rw [e, ht]; exact hS))]; exact h z hz
theorem ag.tr {τ : Nat → Nat} {S S1 : List Nat} {y0 y y1 : Nat → Nat → Int32} (h : ag τ S y0 y) (h1 : ag τ S1 y y1) (hS : ∀ t ∈ S1, t ∈ S) : ag τ S y0 y1 := fun z hz => (h1 z (fun q => hz (hS _ q))).trans (h z hz)
theorem ag.one {τ : Nat → Nat} {y : Nat → Nat → Int32} {q t i : Nat} {x : Int32} (ht : τ q = t) : ag τ [t] y (up2 y q i x) := ag.rf.up ht (List.mem_singleton_self _)
theorem ag.wk {τ : Nat → Nat} {S S1 : List Nat} {y y1 : Nat → Nat → Int32} (h : ag τ S1 y y1) (hS : ∀ t ∈ S1, t ∈ S) : ag τ S y y1 := fun z hz => h z (fun q => hz (hS _ q))
theorem ag.at {τ : Nat → Nat} {S : List Nat} {y y1 : Nat → Nat → Int32} (h : ag τ S y y1) {q t : Nat} (ht : τ q = t) (hS : t ∉ S) : y1 q = y q := h q (by rw [ht]; exact hS)
section TW
variable {D : va_G} {A : Nat → Prop} {a : Nat → Nat} {k : Nat → ClassId} {τ ln : Nat → Nat} {y y' : Nat → Nat → Int32} {g g' : Nat → Nat → Option Nat} {H H1 : Heap}
theorem tw.lt (h : tw D a k τ ln y g H) {q : Nat} (hq : τ q ≠ 0) : q < H.size := (h q hq).lt
theorem tw.kept (h : tw D a k τ ln y g H) (hk : ∀ q : Nat, q < H.size → τ q ≠ 0 → H1[q]? = H[q]?) : tw D a k τ ln y g H1 := fun q hq => (h q hq).kept (hk q (h.lt hq) hq)
theorem tw.one (h : tw D a k τ ln y g H) {q t : Nat} {e : va_E} (ht : τ q = t) (h0 : t ≠ 0) (he : cl_ a k (ln q) (y q) (g q) t = e) : va_P D vwCl [(q, e)] H := by
  intro i x hi
  have hz : i < 1 := (List.getElem?_eq_some_iff.mp hi).1
  rw [show i = 0 by omega] at hi
  cases hi
  have := h q (by rw [ht]; exact h0)
  unfold cel at this
  rw [ht, he] at this
  exact this
theorem tw.world (h : tw D a k τ ln y g H) (hF : ∀ q, τ q ≠ 0 → A q) : ∃ ws : va_W, va_P D vwCl ws H ∧ va_D A ws ∧ (∀ q, τ q ≠ 0 → ∃ i : Nat, ws[i]? = some (q, cel a k τ ln y g q)) ∧ ∀ (i : Nat) (x : Nat × va_E), ws[i]? = some x → τ x.1 ≠ 0 := by
  let f : Nat → Option (Nat × va_E) := fun q => if τ q = 0 then none else some (q, cel a k τ ln y g q)
  have hf : ∀ q x, f q = some x → x = (q, cel a k τ ln y g q) ∧ τ q ≠ 0 := by
    intro q x hx
    by_cases h0 : τ q = 0
    · simp only [f, if_pos h0] at hx; cases hx
    · simp only [f, if_neg h0] at hx; cases hx; exact ⟨rfl, h0⟩
  have hm : ∀ x, x ∈ (List.range H.size).filterMap f → x = (x.1, cel a k τ ln y g x.1) ∧ τ x.1 ≠ 0 := by
    intro x hx
    obtain ⟨q, -, hq⟩ := List.mem_filterMap.mp hx
    obtain ⟨e, h0⟩ := hf q x hq
    subst e
    exact ⟨rfl, h0⟩
  have hp : ((List.range H.size).filterMap f).Pairwise (fun p q => p.1 ≠ q.1) := by
    refine List.Pairwise.filterMap f ?_ (List.nodup_range (n := H.size))
    intro p q hpq x hx z hz
    obtain ⟨e1, -⟩ := hf p x hx
    obtain ⟨e2, -⟩ := hf q z hz
    subst e1; subst e2
    exact hpq
  refine ⟨(List.range H.size).filterMap f, ?_, ⟨?_, ?_⟩, ?_, ?_⟩
  · intro i x hi
    obtain ⟨e, h0⟩ := hm x (List.mem_of_getElem? hi)
    rw [e]
    exact h x.1 h0
  · intro i j p q hi hj e
    obtain ⟨li, ei⟩ := List.getElem?_eq_some_iff.mp hi
    obtain ⟨lj, ej⟩ := List.getElem?_eq_some_iff.mp hj
    rcases Nat.lt_trichotomy i j with h1 | h1 | h1
    · exact absurd (by rw [ei, ej]; exact e) (List.pairwise_iff_getElem.mp hp i j li lj h1)
    · exact h1
    · exact absurd (by rw [ei, ej]; exact e.symm) (List.pairwise_iff_getElem.mp hp j i lj li h1)
  · intro i x hi
    exact hF _ (hm x (List.mem_of_getElem? hi)).2
  · intro q hq
    have : (q, cel a k τ ln y g q) ∈ (List.range H.size).filterMap f := List.mem_filterMap.mpr ⟨q, List.mem_range.mpr (h.lt hq), by simp only [f, if_neg hq]⟩
    exact List.getElem?_of_mem this
  · intro i x hi
    exact (hm x (List.mem_of_getElem? hi)).2
theorem tw_set {ws : va_W} (hin : ∀ q, τ q ≠ 0 → ∃ i : Nat, ws[i]? = some (q, cel a k τ ln y g q)) {i q t : Nat} {e0 e' : va_E} (hi : ws[i]? = some (q, e0)) (hP : va_P D vwCl (ws.set i (q, e')) H1) (ht : τ q = t) (hc : cl_ a k (ln q) (y' q) (g' q) t = e') (hy : ∀ x, x ≠ q → y' x = y x) (hg : ∀ x, x ≠ q → g' x = g x) : tw D a k τ ln y' g' H1 := by
  intro x hx
  by_cases h : x = q
  · subst h
    have := hP i (x, e') (by rw [List.getElem?_set_self (List.getElem?_eq_some_iff.mp hi).1])
    unfold cel
    rw [ht, hc]
    exact this
  · obtain ⟨i', hi'⟩ := hin x hx
    have hne : i ≠ i' := fun e => by subst e; rw [hi] at hi'; cases hi'; exact h rfl
    have := hP i' (x, cel a k τ ln y g x) (by rw [List.getElem?_set_ne hne]; exact hi')
    unfold cel at this ⊢
    rw [hy x h, hg x h]
    exact this
theorem tw_push {ws : va_W} (hin : ∀ q, τ q ≠ 0 → ∃ i : Nat, ws[i]? = some (q, cel a k τ ln y g q)) {q t : Nat} {e : va_E} {ln' : Nat → Nat} (hP : va_P D vwCl (ws ++ [(q, e)]) H1) (hD : va_D A (ws ++ [(q, e)])) (hc : cl_ a k (ln' q) (y' q) (g' q) t = e) (hy : ∀ x, x ≠ q → y' x = y x) (hg : ∀ x, x ≠ q → g' x = g x) (hn : ∀ x, x ≠ q → ln' x = ln x) : τ q = 0 ∧ A q ∧ tw D a k (nwt τ q t) ln' y' g' H1 := by
  have hl : (ws ++ [(q, e)])[ws.length]? = some (q, e) := by rw [List.getElem?_append_right (Nat.le_refl _), Nat.sub_self]; rfl
  have h0 : τ q = 0 := by
    by_cases h : τ q = 0
    · exact h
    · obtain ⟨i, hi⟩ := hin q h
      have li := (List.getElem?_eq_some_iff.mp hi).1
      have := hD.1 i ws.length (q, cel a k τ ln y g q) (q, e) (by rw [List.getElem?_append_left li]; exact hi) hl rfl
      omega
  refine ⟨h0, hD.2 _ _ hl, fun x hx => ?_⟩
  by_cases h : x = q
  · subst h
    have := hP ws.length _ hl
    unfold cel
    rw [nwt_i, hc]
    exact this
  · rw [nwt_o h] at hx
    obtain ⟨i, hi⟩ := hin x hx
    have li := (List.getElem?_eq_some_iff.mp hi).1
    have := hP i (x, cel a k τ ln y g x) (by rw [List.getElem?_append_left li]; exact hi)
    unfold cel at this ⊢
    rw [nwt_o h, hy x h, hg x h, hn x h]
    exact this
end TW
/-- a method's start -/
def pw_ (ad av : Nat → Nat) (D : va_G) (sz : Nat) (vs : List Value) (a : Nat → Nat) (k : Nat → ClassId) (τ ln : Nat → Nat) (y : Nat → Nat → Int32) (g : Nat → Nat → Option Nat) : Array Value → State → Prop :=
  va_Pc vs (fun U => U.heap.size = sz ∧ tw D a k τ ln y g U.heap ∧ va_K D vwCl (tyl k) U ∧ am_ok ad av (fr τ sz) U U.heap)
theorem pw_blind {ad av : Nat → Nat} {D : va_G} {sz : Nat} {vs : List Value} {a : Nat → Nat} {k : Nat → ClassId} {τ ln : Nat → Nat} {y : Nat → Nat → Int32} {g : Nat → Nat → Option Nat} : FrameBlind (pw_ ad av D sz vs a k τ ln y g) := by
  intro b U g mk q
  obtain ⟨q0, q1, qT, qK, qM⟩ := q
  exact ⟨q0, q1, qT, va_K.moved (u := U) (U := U.calling g mk b) (Vm.Alike.refl U.vm) qK, am_ok.same (u := U) (U := U.calling g mk b) rfl qM⟩
theorem pw_use {ad av : Nat → Nat} {D : va_G} {vs : List Value} {a : Nat → Nat} {k : Nat → ClassId} {τ ln : Nat → Nat} {y : Nat → Nat → Int32} {g : Nat → Nat → Option Nat} {A : Nat → Prop} {s : State} {H : Heap} {locs : List Loc} (hT : tw D a k τ ln y g H) (hK : va_K D vwCl (tyl k) s) (hF : ∀ q, fr τ H.size q → A q) (hS : va_S A s.heap H locs) (hM : am_ok ad av A s s.heap) :
    ∀ U : State, U.heap = H → s.WarmedH U.vm → pw_ ad av D H.size vs a k τ ln y g vs.toArray U := by
  intro U hU hW
  refine ⟨rfl, by rw [hU], by rw [hU]; exact hT, va_K.moved hW.alike hK, ?_⟩
  rw [hU]
  exact ((hM.kept hS.2.1).narrow hF).warm hW
theorem tw_free {τ : Nat → Nat} {A : Nat → Prop} {H0 H : Heap} {locs : List Loc} (hF : ∀ q, τ q ≠ 0 → A q) (hS : va_S A H0 H locs) (hA : ∀ q : Nat, H0.size ≤ q → A q) : ∀ q, fr τ H.size q → A q := fun q h => h.elim (hF q) (fun z => hA q (Nat.le_trans hS.1 z))
section TWO
variable {p : Program} {l : Launch} {e : Env} {R : Room} {s : State} {m : MethodId} {args : Array Value} {below : List Frame} {meth : Method} {c : Code} {H : Heap} {locs : List Loc} {cells slots : Nat} {Q : State → Prop}
variable {cc : ByteArray} {pc : Nat} {ls : Array Slot} {rest : List Value} {D : va_G} {A : Nat → Prop} {H0 : Heap}
variable {a : Nat → Nat} {k : Nat → ClassId} {τ ln : Nat → Nat} {y : Nat → Nat → Int32} {g : Nat → Nat → Option Nat} {q t : Nat}
theorem lq_topr {o : Option Nat} {z : Nat} (h : o = some z) (kk : W p l e R s m args below meth c H locs cells slots Q (F0 m pc ls (.ref z :: rest))) : W p l e R s m args below meth c H locs cells slots Q (F0 m pc ls (va_rf o :: rest)) := by
  rw [h]; exact kk
theorem tw_get (hexec : p.tables.exec = Jvm.exec) (hb : c.code = cc) {own ref C : String} {T : u_T} {N ci index : Nat} {Ts : List Cond} (hts : ∀ w ∈ Ts, w.before args s = true) (hin : ∀ w ∈ u_ws C T N, w ∈ Ts) (hown : s.vm.findClass own = some m.cls) {tys : List (ClassId × FieldType)} (hK : va_K D vwCl tys s) (hT : tw D a k τ ln y g H) (ht : τ q = t) (h0 : t ≠ 0) {fs : List Value} (he : cl_ a k (ln q) (y q) (g q) t = .inr (ci, fs)) (hc : vwCl[ci]? = some (C, T, N)) (kf : Nat) (hk : kf < N) (hlink : (Cond.fieldLink own index ref (T kf).2.1 (T kf).2.2.1).before args s = true) (hsame : ∀ x, s.fieldFound? (T kf).1 (T kf).2.1 (T kf).2.2.1 = some x → s.fieldFound? ref (T kf).2.1 (T kf).2.2.1 = some x) {v : Value} (hv : fs[kf]? = some v) (hdg : decode cc pc = .ok (.getfield index, 3))
    (kk : W p l e R s m args below meth c H locs cells slots Q (F0 m (pc + 3) ls (v :: rest))) : W p l e R s m args below meth c H locs cells slots Q (F0 m pc ls (.ref q :: rest)) :=
  va_get hexec hb hts hin hown hK (hT.one ht h0 he) 0 rfl hc kf hk hlink hsame hv hdg kk
theorem tw_put (hexec : p.tables.exec = Jvm.exec) (hb : c.code = cc) {own ref C : String} {T : u_T} {N ci index : Nat} {Ts : List Cond} (hts : ∀ w ∈ Ts, w.before args s = true) (hin : ∀ w ∈ u_ws C T N, w ∈ Ts) (ty0 : Nat → FieldType) (hty : ∀ k, k < N → parseFieldDescriptor (T k).2.2.1 = some (ty0 k)) (hnm : ∀ a, a < N → ∀ b, b < N → a ≠ b → (T a).2.1 ≠ (T b).2.1) (hown : s.vm.findClass own = some m.cls) {tys : List (ClassId × FieldType)} (hK : va_K D vwCl tys s) (hT : tw D a k τ ln y g H) (hF : ∀ q, τ q ≠ 0 → A q) (hS0 : va_S A H0 H locs) (ht : τ q = t) (h0 : t ≠ 0) {fs : List Value} (he : cl_ a k (ln q) (y q) (g q) t = .inr (ci, fs)) (hc : vwCl[ci]? = some (C, T, N)) (kf : Nat) (hk : kf < N) (hlink : (Cond.fieldLink own index ref (T kf).2.1 (T kf).2.2.1).before args s = true) (hsame : ∀ x, s.fieldFound? (T kf).1 (T kf).2.1 (T kf).2.2.1 = some x → s.fieldFound? ref (T kf).2.1 (T kf).2.2.1 = some x) (hfin : (T kf).2.2.2 = false) {ty : FieldType} {x : Int32} (hd : parseFieldDescriptor (T kf).2.2.1 = some ty) (hn : narrow ty (.int x) = .int x) (hfit : fits ty (.int x) = true) (hl : kf < fs.length)
    (hu : cl_ a k (ln q) (upd (y q) kf x) (g q) t = .inr (ci, fs.set kf (.int x))) (hdg : decode cc pc = .ok (.putfield index, 3))
    (kk : ∀ (H1 : Heap) (locs1 : List Loc), tw D a k τ ln (up2 y q kf x) g H1 → va_S A H0 H1 locs1 → W p l e R s m args below meth c H1 locs1 cells slots Q (F0 m (pc + 3) ls rest)) : W p l e R s m args below meth c H locs cells slots Q (F0 m pc ls (.int x :: .ref q :: rest)) := by
  obtain ⟨ws, hP, hD, hi, -⟩ := hT.world hF
  obtain ⟨i, hq⟩ := hi q (by rw [ht]; exact h0)
  have hq' : ws[i]? = some (q, .inr (ci, fs)) := by rw [hq]; unfold cel; rw [ht, he]
  exact va_put hexec hb hts hin ty0 hty hnm hown hK hP hD hS0 i hq' hc kf hk hlink hsame hfin hd hn hfit hl hdg (fun H1 locs1 hP1 _ hS1 => kk H1 locs1 (tw_set hi hq' hP1 ht (by rw [up2_q]; exact hu) (fun x hx => up2_o hx) (fun _ _ => rfl)) hS1)
theorem tw_putF (hexec : p.tables.exec = Jvm.exec) (hb : c.code = cc) {own ref C : String} {T : u_T} {N ci index : Nat} {Ts : List Cond} (hts : ∀ w ∈ Ts, w.before args s = true) (hin : ∀ w ∈ u_ws C T N, w ∈ Ts) (ty0 : Nat → FieldType) (hty : ∀ k, k < N → parseFieldDescriptor (T k).2.2.1 = some (ty0 k)) (hnm : ∀ a, a < N → ∀ b, b < N → a ≠ b → (T a).2.1 ≠ (T b).2.1) (hown : s.vm.findClass own = some m.cls) {tys : List (ClassId × FieldType)} (hK : va_K D vwCl tys s) (hT : tw D a k τ ln y g H) (hF : ∀ q, τ q ≠ 0 → A q) (hS0 : va_S A H0 H locs) (ht : τ q = t) (h0 : t ≠ 0) {fs : List Value} (he : cl_ a k (ln q) (y q) (g q) t = .inr (ci, fs)) (hc : vwCl[ci]? = some (C, T, N)) (kf : Nat) (hk : kf < N) (hlink : (Cond.fieldLink own index ref (T kf).2.1 (T kf).2.2.1).before args s = true) (hsame : ∀ x, s.fieldFound? (T kf).1 (T kf).2.1 (T kf).2.2.1 = some x → s.fieldFound? ref (T kf).2.1 (T kf).2.2.1 = some x) (hfin : (T kf).2.2.2 = true) (hin2 : meth.name = "<init>") (hdecl : (T kf).1 = own) {ty : FieldType} {x : Int32} (hd : parseFieldDescriptor (T kf).2.2.1 = some ty) (hn : narrow ty (.int x) = .int x) (hfit : fits ty (.int x) = true) (hl : kf < fs.length)
    (hu : cl_ a k (ln q) (upd (y q) kf x) (g q) t = .inr (ci, fs.set kf (.int x))) (hdg : decode cc pc = .ok (.putfield index, 3))
    (kk : ∀ (H1 : Heap) (locs1 : List Loc), tw D a k τ ln (up2 y q kf x) g H1 → va_S A H0 H1 locs1 → W p l e R s m args below meth c H1 locs1 cells slots Q (F0 m (pc + 3) ls rest)) : W p l e R s m args below meth c H locs cells slots Q (F0 m pc ls (.int x :: .ref q :: rest)) := by
  obtain ⟨ws, hP, hD, hi, -⟩ := hT.world hF
  obtain ⟨i, hq⟩ := hi q (by rw [ht]; exact h0)
  have hq' : ws[i]? = some (q, .inr (ci, fs)) := by rw [hq]; unfold cel; rw [ht, he]
  exact va_putF hexec hb hts hin ty0 hty hnm hown hK hP hD hS0 i hq' hc kf hk hlink hsame hfin hin2 hdecl hd hn hfit hl hdg (fun H1 locs1 hP1 _ hS1 => kk H1 locs1 (tw_set hi hq' hP1 ht (by rw [up2_q]; exact hu) (fun x hx => up2_o hx) (fun _ _ => rfl)) hS1)
theorem tw_putFr (hexec : p.tables.exec = Jvm.exec) (hb : c.code = cc) {own ref C : String} {T : u_T} {N ci index : Nat} {Ts : List Cond} (hts : ∀ w ∈ Ts, w.before args s = true) (hin : ∀ w ∈ u_ws C T N, w ∈ Ts) (ty0 : Nat → FieldType) (hty : ∀ k, k < N → parseFieldDescriptor (T k).2.2.1 = some (ty0 k)) (hnm : ∀ a, a < N → ∀ b, b < N → a ≠ b → (T a).2.1 ≠ (T b).2.1) (hown : s.vm.findClass own = some m.cls) {tys : List (ClassId × FieldType)} (hK : va_K D vwCl tys s) (hT : tw D a k τ ln y g H) (hF : ∀ q, τ q ≠ 0 → A q) (hS0 : va_S A H0 H locs) (ht : τ q = t) (h0 : t ≠ 0) {fs : List Value} (he : cl_ a k (ln q) (y q) (g q) t = .inr (ci, fs)) (hc : vwCl[ci]? = some (C, T, N)) (kf : Nat) (hk : kf < N) (hlink : (Cond.fieldLink own index ref (T kf).2.1 (T kf).2.2.1).before args s = true) (hsame : ∀ x, s.fieldFound? (T kf).1 (T kf).2.1 (T kf).2.2.1 = some x → s.fieldFound? ref (T kf).2.1 (T kf).2.2.1 = some x) (hfin : (T kf).2.2.2 = true) (hin2 : meth.name = "<init>") (hdecl : (T kf).1 = own) {ty : FieldType} {x : Nat} (hd : parseFieldDescriptor (T kf).2.2.1 = some ty) (hn : narrow ty (.ref x) = .ref x) (hfit : fits ty (.ref x) = true) (hl : kf < fs.length)
    (hu : cl_ a k (ln q) (y q) (va_up (g q) kf (some x)) t = .inr (ci, fs.set kf (.ref x))) (hdg : decode cc pc = .ok (.putfield index, 3))
    (kk : ∀ (H1 : Heap) (locs1 : List Loc), tw D a k τ ln y (upg g q kf (some x)) H1 → va_S A H0 H1 locs1 → W p l e R s m args below meth c H1 locs1 cells slots Q (F0 m (pc + 3) ls rest)) : W p l e R s m args below meth c H locs cells slots Q (F0 m pc ls (.ref x :: .ref q :: rest)) := by
  obtain ⟨ws, hP, hD, hi, -⟩ := hT.world hF
  obtain ⟨i, hq⟩ := hi q (by rw [ht]; exact h0)
  have hq' : ws[i]? = some (q, .inr (ci, fs)) := by rw [hq]; unfold cel; rw [ht, he]
  exact va_putF hexec hb hts hin ty0 hty hnm hown hK hP hD hS0 i hq' hc kf hk hlink hsame hfin hin2 hdecl hd hn hfit hl hdg (fun H1 locs1 hP1 _ hS1 => kk H1 locs1 (tw_set hi hq' hP1 ht (by rw [upg_q]; exact hu) (fun _ _ => rfl) (fun x hx => upg_o hx)) hS1)
theorem tw_iald (hexec : p.tables.exec = Jvm.exec) (hb : c.code = cc) {tys : List (ClassId × FieldType)} (hK : va_K D vwCl tys s) (hT : tw D a k τ ln y g H) (t0 : Nat) (ht : τ q = t) (h0 : t ≠ 0) {cA : ClassId} {n : Nat} (he : cl_ a k (ln q) (y q) (g q) t = .inl (cA, n, .inl (y q))) (hty : tys[t0]? = some (cA, .int)) {i : Int32} (hin : vp_in i n) (hdg : decode cc pc = .ok (.iaload, 1))
    (kk : W p l e R s m args below meth c H locs cells slots Q (F0 m (pc + 1) ls (.int (y q i.toNatClampNeg) :: rest))) : W p l e R s m args below meth c H locs cells slots Q (F0 m pc ls (.int i :: .ref q :: rest)) :=
  va_iald hexec hb hK (hT.one ht h0 he) 0 t0 rfl hty hin hdg kk
theorem tw_cald (hexec : p.tables.exec = Jvm.exec) (hb : c.code = cc) {tys : List (ClassId × FieldType)} (hK : va_K D vwCl tys s) (hT : tw D a k τ ln y g H) (t0 : Nat) (ht : τ q = t) (h0 : t ≠ 0) {cA : ClassId} {n : Nat} (he : cl_ a k (ln q) (y q) (g q) t = .inl (cA, n, .inl (y q))) (hty : tys[t0]? = some (cA, .char)) {i : Int32} (hin : vp_in i n) (hdg : decode cc pc = .ok (.caload, 1))
    (kk : W p l e R s m args below meth c H locs cells slots Q (F0 m (pc + 1) ls (.int (y q i.toNatClampNeg) :: rest))) : W p l e R s m args below meth c H locs cells slots Q (F0 m pc ls (.int i :: .ref q :: rest)) :=
  va_cald hexec hb hK (hT.one ht h0 he) 0 t0 rfl hty hin hdg kk
theorem tw_bald (hexec : p.tables.exec = Jvm.exec) (hb : c.code = cc) {tys : List (ClassId × FieldType)} (hK : va_K D vwCl tys s) (hT : tw D a k τ ln y g H) (t0 : Nat) (ht : τ q = t) (h0 : t ≠ 0) {cA : ClassId} {n : Nat} (he : cl_ a k (ln q) (y q) (g q) t = .inl (cA, n, .inl (y q))) (hty : tys[t0]? = some (cA, .byte)) {i : Int32} (hin : vp_in i n) (hdg : decode cc pc = .ok (.baload, 1))
    (kk : W p l e R s m args below meth c H locs cells slots Q (F0 m (pc + 1) ls (.int (y q i.toNatClampNeg) :: rest))) : W p l e R s m args below meth c H locs cells slots Q (F0 m pc ls (.int i :: .ref q :: rest)) :=
  va_bald hexec hb hK (hT.one ht h0 he) 0 t0 rfl hty hin hdg kk
theorem tw_iast (hexec : p.tables.exec = Jvm.exec) (hb : c.code = cc) {tys : List (ClassId × FieldType)} (hK : va_K D vwCl tys s) (hT : tw D a k τ ln y g H) (hF : ∀ q, τ q ≠ 0 → A q) (hS : va_S A H0 H locs) (t0 : Nat) (ht : τ q = t) (h0 : t ≠ 0) {cA : ClassId} {n : Nat} (he : ∀ f : Nat → Int32, cl_ a k (ln q) f (g q) t = .inl (cA, n, .inl f)) (hty : tys[t0]? = some (cA, .int)) {i x : Int32} (hin : vp_in i n) (hdg : decode cc pc = .ok (.iastore, 1))
    (kk : ∀ (H1 : Heap) (locs1 : List Loc), tw D a k τ ln (up2 y q i.toNatClampNeg x) g H1 → va_S A H0 H1 locs1 → W p l e R s m args below meth c H1 locs1 cells slots Q (F0 m (pc + 1) ls rest)) : W p l e R s m args below meth c H locs cells slots Q (F0 m pc ls (.int x :: .int i :: .ref q :: rest)) := by
  obtain ⟨ws, hP, hD, hi, -⟩ := hT.world hF
  obtain ⟨j, hq⟩ := hi q (by rw [ht]; exact h0)
  have hq' : ws[j]? = some (q, .inl (cA, n, .inl (y q))) := by rw [hq]; unfold cel; rw [ht, he]
  exact va_iast hexec hb hK hP hD hS j t0 hq' hty hin hdg (fun H1 locs1 hP1 _ hS1 => kk H1 locs1 (tw_set hi hq' hP1 ht (by rw [up2_q]; exact he _) (fun x hx => up2_o hx) (fun _ _ => rfl)) hS1)
theorem tw_cast (hexec : p.tables.exec = Jvm.exec) (hb : c.code = cc) {tys : List (ClassId × FieldType)} (hK : va_K D vwCl tys s) (hT : tw D a k τ ln y g H) (hF : ∀ q, τ q ≠ 0 → A q) (hS : va_S A H0 H locs) (t0 : Nat) (ht : τ q = t) (h0 : t ≠ 0) {cA : ClassId} {n : Nat} (he : ∀ f : Nat → Int32, cl_ a k (ln q) f (g q) t = .inl (cA, n, .inl f)) (hty : tys[t0]? = some (cA, .char)) {i x : Int32} (hin : vp_in i n) (hdg : decode cc pc = .ok (.castore, 1))
    (kk : ∀ (H1 : Heap) (locs1 : List Loc), tw D a k τ ln (up2 y q i.toNatClampNeg (vp_nar .char x)) g H1 → va_S A H0 H1 locs1 → W p l e R s m args below meth c H1 locs1 cells slots Q (F0 m (pc + 1) ls rest)) : W p l e R s m args below meth c H locs cells slots Q (F0 m pc ls (.int x :: .int i :: .ref q :: rest)) := by
  obtain ⟨ws, hP, hD, hi, -⟩ := hT.world hF
  obtain ⟨j, hq⟩ := hi q (by rw [ht]; exact h0)
  have hq' : ws[j]? = some (q, .inl (cA, n, .inl (y q))) := by rw [hq]; unfold cel; rw [ht, he]
  exact va_cast hexec hb hK hP hD hS j t0 hq' hty hin hdg (fun H1 locs1 hP1 _ hS1 => kk H1 locs1 (tw_set hi hq' hP1 ht (by rw [up2_q]; exact he _) (fun x hx => up2_o hx) (fun _ _ => rfl)) hS1)
theorem tw_bast (hexec : p.tables.exec = Jvm.exec) (hb : c.code = cc) {tys : List (ClassId × FieldType)} (hK : va_K D vwCl tys s) (hT : tw D a k τ ln y g H) (hF : ∀ q, τ q ≠ 0 → A q) (hS : va_S A H0 H locs) (t0 : Nat) (ht : τ q = t) (h0 : t ≠ 0) {cA : ClassId} {n : Nat} (he : ∀ f : Nat → Int32, cl_ a k (ln q) f (g q) t = .inl (cA, n, .inl f)) (hty : tys[t0]? = some (cA, .byte)) {i x : Int32} (hin : vp_in i n) (hdg : decode cc pc = .ok (.bastore, 1))
    (kk : ∀ (H1 : Heap) (locs1 : List Loc), tw D a k τ ln (up2 y q i.toNatClampNeg (vp_nar .byte x)) g H1 → va_S A H0 H1 locs1 → W p l e R s m args below meth c H1 locs1 cells slots Q (F0 m (pc + 1) ls rest)) : W p l e R s m args below meth c H locs cells slots Q (F0 m pc ls (.int x :: .int i :: .ref q :: rest)) := by
  obtain ⟨ws, hP, hD, hi, -⟩ := hT.world hF
  obtain ⟨j, hq⟩ := hi q (by rw [ht]; exact h0)
  have hq' : ws[j]? = some (q, .inl (cA, n, .inl (y q))) := by rw [hq]; unfold cel; rw [ht, he]
  exact va_bast hexec hb hK hP hD hS j t0 hq' hty hin hdg (fun H1 locs1 hP1 _ hS1 => kk H1 locs1 (tw_set hi hq' hP1 ht (by rw [up2_q]; exact he _) (fun x hx => up2_o hx) (fun _ _ => rfl)) hS1)
theorem tw_aald (hexec : p.tables.exec = Jvm.exec) (hb : c.code = cc) {tys : List (ClassId × FieldType)} (hK : va_K D vwCl tys s) (hT : tw D a k τ ln y g H) (t0 : Nat) (ht : τ q = t) (h0 : t ≠ 0) {cA : ClassId} {C : String} {n : Nat} (he : cl_ a k (ln q) (y q) (g q) t = .inl (cA, n, .inr (.inr (.inr (.inr (g q)))))) (hty : tys[t0]? = some (cA, .object C)) {i : Int32} (hin : vp_in i n) (hdg : decode cc pc = .ok (.aaload, 1))
    (kk : W p l e R s m args below meth c H locs cells slots Q (F0 m (pc + 1) ls (va_rf (g q i.toNatClampNeg) :: rest))) : W p l e R s m args below meth c H locs cells slots Q (F0 m pc ls (.int i :: .ref q :: rest)) :=
  va_aldq hexec hb hK (hT.one ht h0 he) 0 t0 rfl hty hin hdg kk
theorem tw_aast (hexec : p.tables.exec = Jvm.exec) (hb : c.code = cc) {tys : List (ClassId × FieldType)} (hK : va_K D vwCl tys s) (hT : tw D a k τ ln y g H) (hF : ∀ q, τ q ≠ 0 → A q) (hS : va_S A H0 H locs) (t0 : Nat) (ht : τ q = t) (h0 : t ≠ 0) {cA : ClassId} {n : Nat} (he : ∀ f : Nat → Option Nat, cl_ a k (ln q) (y q) f t = .inl (cA, n, .inr (.inr (.inr (.inr f))))) {r : vw_C} (hty : tys[t0]? = some (cA, .object r.1)) {v tv ci : Nat} {vs : List Value} (hv : τ v = tv) (hv0 : tv ≠ 0) (hve : cl_ a k (ln v) (y v) (g v) tv = .inr (ci, vs)) (hc : vwCl[ci]? = some r) {i : Int32} (hin : vp_in i n) (hdg : decode cc pc = .ok (.aastore, 1))
    (kk : ∀ (H1 : Heap) (locs1 : List Loc), tw D a k τ ln y (upg g q i.toNatClampNeg (some v)) H1 → va_S A H0 H1 locs1 → W p l e R s m args below meth c H1 locs1 cells slots Q (F0 m (pc + 1) ls rest)) : W p l e R s m args below meth c H locs cells slots Q (F0 m pc ls (.ref v :: .int i :: .ref q :: rest)) := by
  obtain ⟨ws, hP, hD, hi, -⟩ := hT.world hF
  obtain ⟨j, hq⟩ := hi q (by rw [ht]; exact h0)
  obtain ⟨j2, hq2⟩ := hi v (by rw [hv]; exact hv0)
  have hq' : ws[j]? = some (q, .inl (cA, n, .inr (.inr (.inr (.inr (g q)))))) := by rw [hq]; unfold cel; rw [ht, he]
  have hv' : ws[j2]? = some (v, .inr (ci, vs)) := by rw [hq2]; unfold cel; rw [hv, hve]
  exact va_astq hexec hb hK hP hD hS j t0 j2 ci hq' hty hv' hc hin hdg (fun H1 locs1 hP1 _ hS1 => kk H1 locs1 (tw_set hi hq' hP1 ht (by rw [upg_q]; exact he _) (fun _ _ => rfl) (fun x hx => upg_o hx)) hS1)
theorem tw_alen (hexec : p.tables.exec = Jvm.exec) (hb : c.code = cc) {tys : List (ClassId × FieldType)} (hK : va_K D vwCl tys s) (hT : tw D a k τ ln y g H) (t0 : Nat) (ht : τ q = t) (h0 : t ≠ 0) {cA : ClassId} {x : vp_A} (he : cl_ a k (ln q) (y q) (g q) t = .inl (cA, x)) {ty : FieldType} (hty : tys[t0]? = some (cA, ty)) {v : Int32} (hv : Int32.ofNat x.1 = v) (hdg : decode cc pc = .ok (.arraylength, 1))
    (kk : W p l e R s m args below meth c H locs cells slots Q (F0 m (pc + 1) ls (.int v :: rest))) : W p l e R s m args below meth c H locs cells slots Q (F0 m pc ls (.ref q :: rest)) :=
  va_alen hexec hb hK (hT.one ht h0 he) 0 t0 rfl hty hv hdg kk
theorem tw_recv {tys : List (ClassId × FieldType)} (hK : va_K D vwCl tys s) (hT : tw D a k τ ln y g H) (ht : τ q = t) (h0 : t ≠ 0) {ci : Nat} {fs : List Value} {r : vw_C} (he : cl_ a k (ln q) (y q) (g q) t = .inr (ci, fs)) (hc : vwCl[ci]? = some r) : ∃ cell : Cell, H[q]? = some cell ∧ cell.vm.isStatics = false ∧ s.vm.findClass r.1 = some cell.cls :=
  va_recv hK (hT.one ht h0 he) hc (q0 := 0) rfl
theorem tw_new (hexec : p.tables.exec = Jvm.exec) (hb : c.code = cc) {own C : String} {T : u_T} {N ci index : Nat} {Ts : List Cond} (hts : ∀ w ∈ Ts, w.before args s = true) (hin : ∀ w ∈ u_ws C T N, w ∈ Ts) (ty : Nat → FieldType) (hty : ∀ k, k < N → parseFieldDescriptor (T k).2.2.1 = some (ty k)) (hown : s.vm.findClass own = some m.cls) (hcl : (Cond.classLink own index C).before args s = true) (hinst : (Cond.instantiable C N).before args s = true) (hini : (Cond.initialized C).before args s = true) {tys : List (ClassId × FieldType)}
    (hK : va_K D vwCl tys s) (hT : tw D a k τ ln y g H) (hF : ∀ q, τ q ≠ 0 → A q) (hS : va_S A H0 H locs) (hA : ∀ q : Nat, H0.size ≤ q → A q) (t : Nat) (hc : vwCl[ci]? = some (C, T, N)) {fs : List Value} (hfs : ∀ j, j < N → defaultValue (ty j) = vp_V fs j) (he : ∀ n : Nat, cl_ a k n (fun _ => 0) (fun _ => none) t = .inr (ci, fs)) (hcells : cells + 1 ≤ R.cells) (hslots : slots + N ≤ R.slots) (hdg : decode cc pc = .ok (.new index, 3))
    (kk : ∀ (q : Nat) (H1 : Heap), τ q = 0 → A q → tw D a k (nwt τ q t) ln (nwy y q (fun _ => 0)) (nwg g q) H1 → va_S A H0 H1 locs →
      W p l e R s m args below meth c H1 locs (cells + 1) (slots + N) Q (F0 m (pc + 3) ls (.ref q :: rest))) : W p l e R s m args below meth c H locs cells slots Q (F0 m pc ls rest) := by
  obtain ⟨ws, hP, hD, hi, -⟩ := hT.world hF
  refine va_new hexec hb hts hin ty hty hown hcl hinst hini hK hP hD hS hA hc hfs hcells hslots hdg (fun q H1 hP1 hD1 hS1 => ?_)
  obtain ⟨z1, z2, z3⟩ := tw_push (t := t) (y' := nwy y q (fun _ => 0)) (g' := nwg g q) (ln' := ln) hi hP1 hD1 (by rw [nwy_i, nwg_i]; exact he _) (fun x hx => nwy_o hx) (fun x hx => nwg_o hx) (fun _ _ => rfl)
  exact kk q H1 z1 z2 z3 hS1
end TWO
/-- arrays of ints are of one class -/
theorem cI_one {D : va_G} {cl : List vw_C} {tys : List (ClassId × FieldType)} {U : State} {c1 c2 : ClassId} {k1 k2 : Nat} (h : va_K D cl tys U) (h1 : tys[k1]? = some (c1, .int)) (h2 : tys[k2]? = some (c2, .int)) : c1 = c2 :=
  Option.some.inj ((va_nm_int (h.2 k1 _ h1).2).symm.trans (va_nm_int (h.2 k2 _ h2).2))
