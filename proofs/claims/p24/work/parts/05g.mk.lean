/-! MADE CELLS, AND WHAT BECOMES OF THE INVARIANT -/
theorem em_P {D : va_G} {H : Heap} : va_P D vwCl [] H := fun k q h => by simp at h
theorem em_D {A : Nat → Prop} : va_D A [] := ⟨fun i j p q h => by simp at h, fun k q h => by simp at h⟩
theorem em_no {q sz : Nat} (h : q < sz) : ¬ va_A [] sz q := fun z => by
  rcases z with ⟨k, e, z⟩ | z
  · simp at z
  · omega
theorem em_F {A : Nat → Prop} {H0 H : Heap} {locs : List Loc} (hS : va_S A H0 H locs) (hA : ∀ q : Nat, H0.size ≤ q → A q) : ∀ q, va_A [] H.size q → A q := fun q z => by
  rcases z with ⟨k, e, z⟩ | z
  · simp at z
  · exact hA q (Nat.le_trans hS.1 z)
def upn (ln : Nat → Nat) (q n : Nat) : Nat → Nat := fun z => if z = q then n else ln z
theorem upn_i {ln : Nat → Nat} {q n : Nat} : upn ln q n q = n := if_pos rfl
theorem upn_o {ln : Nat → Nat} {q n z : Nat} (h : z ≠ q) : upn ln q n z = ln z := if_neg h
section EMT
variable {D : va_G} {a : Nat → Nat} {k : Nat → ClassId} {τ ln : Nat → Nat} {y y' : Nat → Nat → Int32} {g g' : Nat → Nat → Option Nat} {H H1 : Heap}
theorem em_T (hT : tw D a k τ ln y g H) (hk : ∀ q : Nat, q < H.size → ¬ va_A [] H.size q → H1[q]? = H[q]?) : tw D a k τ ln y g H1 := hT.kept (fun q h _ => hk q h (em_no h))
theorem tw.rek (hT : tw D a k τ ln y g H) {q s t : Nat} (hq : τ q = s) (h0 : s ≠ 0) (he : ∀ (n : Nat) (u : Nat → Int32) (v : Nat → Option Nat), cl_ a k n u v s = cl_ a k n u v t) : tw D a k (nwt τ q t) ln y g H := by
  intro x hx
  by_cases h : x = q
  · subst h
    have := hT x (by rw [hq]; exact h0)
    unfold cel at this ⊢
    rw [nwt_i, ← he, ← hq]; exact this
  · rw [nwt_o h] at hx
    have := hT x hx
    unfold cel at this ⊢
    rw [nwt_o h]; exact this
end EMT
def mono (τ τ' : Nat → Nat) (sz : Nat) : Prop := (∀ q, τ q ≠ 0 → (10 ≤ τ q ∨ τ q = 1 ∨ τ q = 2) → τ' q = τ q) ∧ ∀ q, τ' q ≠ 0 → fr τ sz q
def kpt (t : Nat) : Bool := decide (60 ≤ t) || ([1, 2, 13, 20, 21, 30, 31, 34, 35, 37] : List Nat).contains t
theorem kpt_ok {t : Nat} (h : kpt t = true) : t ≠ 0 ∧ (10 ≤ t ∨ t = 1 ∨ t = 2) := by
  unfold kpt at h
  simp only [Bool.or_eq_true, decide_eq_true_eq, List.contains_eq_mem, List.mem_cons, List.not_mem_nil, or_false] at h
  omega
def kpM (τ : Nat → Nat) (y : Nat → Nat → Int32) (g : Nat → Nat → Option Nat) (y' : Nat → Nat → Int32) (g' : Nat → Nat → Option Nat) : Prop := ∀ q, kpt (τ q) = true → y' q = y q ∧ g' q = g q
def kpM0 (τ : Nat → Nat) (y : Nat → Nat → Int32) (g : Nat → Nat → Option Nat) (y' : Nat → Nat → Int32) (g' : Nat → Nat → Option Nat) : Prop := ∀ q, 60 ≤ τ q → y' q = y q ∧ g' q = g q
/-- behind a call of the class -/
def pq (D : va_G) (a : Nat → Nat) (k : Nat → ClassId) (τ : Nat → Nat) (y : Nat → Nat → Int32) (g : Nat → Nat → Option Nat) (u' : Nat → Int) (sz : Nat) (H : Heap) : Prop := ∃ (τ' ln' : Nat → Nat) (y' : Nat → Nat → Int32) (g' : Nat → Nat → Option Nat), mono τ τ' sz ∧ kpM τ y g y' g' ∧ IC a u' τ' ln' y' g' ∧ tw D a k τ' ln' y' g' H
theorem mono.rf {τ : Nat → Nat} {sz : Nat} : mono τ τ sz := ⟨fun _ _ _ => rfl, fun _ h => Or.inl h⟩
theorem kpM.rf {τ : Nat → Nat} {y : Nat → Nat → Int32} {g : Nat → Nat → Option Nat} : kpM τ y g y g := fun _ _ => ⟨rfl, rfl⟩
theorem kpM0.rf {τ : Nat → Nat} {y : Nat → Nat → Int32} {g : Nat → Nat → Option Nat} : kpM0 τ y g y g := fun _ _ => ⟨rfl, rfl⟩
theorem kpM.to0 {τ : Nat → Nat} {y y' : Nat → Nat → Int32} {g g' : Nat → Nat → Option Nat} (h : kpM τ y g y' g') : kpM0 τ y g y' g' := fun q hq => h q (by unfold kpt; simp [hq])
section KPM
variable {τ τ' : Nat → Nat} {y y' y2 : Nat → Nat → Int32} {g g' : Nat → Nat → Option Nat} {sz : Nat}
theorem kpM.ag (h : kpM τ y g y' g') (hm : mono τ τ' sz) {S : List Nat} (hg : ag τ' S y' y2) (hS : ∀ t ∈ S, kpt t = false) : kpM τ y g y2 g' := fun q hq => by
  have ho := kpt_ok hq
  refine ⟨?_, (h q hq).2⟩
  rw [hg q (fun z => ?_)]
  · exact (h q hq).1
  · rw [hm.1 q ho.1 ho.2] at z; have := hS _ z; rw [hq] at this; cases this
theorem kpM.up (h : kpM τ y g y' g') (hm : mono τ τ' sz) {q t i : Nat} {x : Int32} (ht : τ' q = t) (h9 : kpt t = false) : kpM τ y g (up2 y' q i x) g' := h.ag hm (ag.one ht) (fun s hs => by rw [List.mem_singleton.mp hs]; exact h9)
theorem kpM.upg (h : kpM τ y g y' g') (hm : mono τ τ' sz) {q t i : Nat} {x : Option Nat} (ht : τ' q = t) (h9 : kpt t = false) : kpM τ y g y' (upg g' q i x) := fun z hz => by
  have ho := kpt_ok hz
  refine ⟨(h z hz).1, ?_⟩
  rw [upg_o (fun e => ?_)]
  · exact (h z hz).2
  · have := hm.1 z ho.1 ho.2; rw [e, ht] at this; rw [e, ← this, h9] at hz; cases hz
theorem kpM.nw (h : kpM τ y g y' g') (hm : mono τ τ' sz) {q : Nat} {f : Nat → Int32} (h0 : τ' q = 0) : kpM τ y g (nwy y' q f) (nwg g' q) := fun z hz => by
  have ho := kpt_ok hz
  have hne : z ≠ q := fun e => by have := hm.1 z ho.1 ho.2; rw [e, h0] at this; rw [e] at ho; omega
  rw [nwy_o hne, nwg_o hne]; exact h z hz
theorem kpM.nwa (h : kpM τ y g y' g') (hm : mono τ τ' sz) {q : Nat} {f : Nat → Int32} (h0 : τ' q = 0) : kpM τ y g (nwy y' q f) g' := fun z hz => by
  have ho := kpt_ok hz
  have hne : z ≠ q := fun e => by have := hm.1 z ho.1 ho.2; rw [e, h0] at this; rw [e] at ho; omega
  rw [nwy_o hne]; exact h z hz
theorem kpM0.ag (h : kpM0 τ y g y' g') (hm : mono τ τ' sz) {S : List Nat} (hg : ag τ' S y' y2) (hS : ∀ t ∈ S, t < 60) : kpM0 τ y g y2 g' := fun q hq => by
  refine ⟨?_, (h q hq).2⟩
  rw [hg q (fun z => ?_)]
  · exact (h q hq).1
  · rw [hm.1 q (by omega) (by omega)] at z; have := hS _ z; omega
theorem kpM0.up (h : kpM0 τ y g y' g') (hm : mono τ τ' sz) {q t i : Nat} {x : Int32} (ht : τ' q = t) (h9 : t < 60) : kpM0 τ y g (up2 y' q i x) g' := h.ag hm (ag.one ht) (fun s hs => by rw [List.mem_singleton.mp hs]; exact h9)
theorem kpM0.upg (h : kpM0 τ y g y' g') (hm : mono τ τ' sz) {q t i : Nat} {x : Option Nat} (ht : τ' q = t) (h9 : t < 60) : kpM0 τ y g y' (upg g' q i x) := fun z hz => by
  refine ⟨(h z hz).1, ?_⟩
  rw [upg_o (fun e => ?_)]
  · exact (h z hz).2
  · have := hm.1 z (by omega) (by omega); rw [e, ht] at this; rw [e] at hz; omega
theorem kpM0.nw (h : kpM0 τ y g y' g') (hm : mono τ τ' sz) {q : Nat} {f : Nat → Int32} (h0 : τ' q = 0) : kpM0 τ y g (nwy y' q f) (nwg g' q) := fun z hz => by
  have hne : z ≠ q := fun e => by have := hm.1 z (by omega) (by omega); rw [e, h0] at this; rw [e] at hz; omega
  rw [nwy_o hne, nwg_o hne]; exact h z hz
theorem kpM0.nwa (h : kpM0 τ y g y' g') (hm : mono τ τ' sz) {q : Nat} {f : Nat → Int32} (h0 : τ' q = 0) : kpM0 τ y g (nwy y' q f) g' := fun z hz => by
  have hne : z ≠ q := fun e => by have := hm.1 z (by omega) (by omega); rw [e, h0] at this; rw [e] at hz; omega
  rw [nwy_o hne]; exact h z hz
theorem mono.nw (hm : mono τ τ' sz) {q t : Nat} (h0 : τ' q = 0) (hq : fr τ sz q) : mono τ (nwt τ' q t) sz := ⟨fun z h1 h2 => by
    rw [nwt_o (fun e => by have := hm.1 z h1 h2; rw [e, h0] at this; rw [e] at h1; omega)]; exact hm.1 z h1 h2, fun z hz => by
    by_cases e : z = q
    · rw [e]; exact hq
    · rw [nwt_o e] at hz; exact hm.2 z hz⟩
theorem mono.rek (hm : mono τ τ' sz) {q s t : Nat} (hq : τ' q = s) (hs : s < 10 ∧ s ≠ 1 ∧ s ≠ 2) (h0 : s ≠ 0) : mono τ (nwt τ' q t) sz := ⟨fun z h1 h2 => by
    rw [nwt_o (fun e => by have := hm.1 z h1 h2; rw [e, hq] at this; rw [e] at h2; omega)]; exact hm.1 z h1 h2, fun z hz => by
    by_cases e : z = q
    · rw [e]; exact hm.2 q (by rw [hq]; exact h0)
    · rw [nwt_o e] at hz; exact hm.2 z hz⟩
end KPM
section TWM
variable {p : Program} {l : Launch} {e : Env} {R : Room} {s : State} {m : MethodId} {args : Array Value} {below : List Frame} {meth : Method} {c : Code} {H : Heap} {locs : List Loc} {cells slots : Nat} {Q : State → Prop}
variable {cc : ByteArray} {pc : Nat} {ls : Array Slot} {rest : List Value} {D : va_G} {A : Nat → Prop} {H0 : Heap}
variable {a : Nat → Nat} {k : Nat → ClassId} {τ ln : Nat → Nat} {y : Nat → Nat → Int32} {g : Nat → Nat → Option Nat} {q t : Nat}
theorem tw_copy (hexec : p.tables.exec = Jvm.exec) (hb : c.code = cc) (hml : c.maxLocals = ls.size) {own : String} {index : Nat} (hown : s.vm.findClass own = some m.cls) (hlink : (Cond.methodLink own index arraycopyName).before args s = true) (hnat : (Cond.native arraycopyName).before args s = true) (hstat : (Cond.static arraycopyName).before args s = true) (hini : (Cond.initialized "java/lang/System").before args s = true)
    (hK : va_K D vwCl (tyl k) s) (hT : tw D a k τ ln y g H) (hF : ∀ q, τ q ≠ 0 → A q) (hS : va_S A H0 H locs) {q1 t1 n0 n1 : Nat} (ht : τ q = t) (h0 : t ≠ 0) (he : cl_ a k (ln q) (y q) (g q) t = .inl (k 0, n0, .inl (y q))) (ht1 : τ q1 = t1) (h10 : t1 ≠ 0) (he1 : ∀ f : Nat → Int32, cl_ a k (ln q1) f (g q1) t1 = .inl (k 0, n1, .inl f))
    {sp dp n : Int32} (h1 : ¬ sp < 0) (h2 : ¬ dp < 0) (h3 : ¬ n < 0) (h4 : sp.toNatClampNeg + n.toNatClampNeg ≤ n0) (h5 : dp.toNatClampNeg + n.toNatClampNeg ≤ n1)
    (hframes : 1 ≤ R.frames) (hlocals : (rest.map fun v => v.category).sum + (nativeFrameWords "java/lang/System" "arraycopy" 5 + 11) ≤ R.locals) (hdg : decode cc pc = .ok (.invokestatic index, 3))
    (kk : ∀ (H1 : Heap) (locs1 : List Loc), tw D a k τ ln (nwy y q1 (va_cpy (y q) (y q1) sp.toNatClampNeg dp.toNatClampNeg n.toNatClampNeg)) g H1 → va_S A H0 H1 locs1 → W p l e R s m args below meth c H1 locs1 cells slots Q (F0 m (pc + 3) ls rest)) : W p l e R s m args below meth c H locs cells slots Q (F0 m pc ls (.int n :: .int dp :: .ref q1 :: .int sp :: .ref q :: rest)) := by
  obtain ⟨ws, hP, hD, hi, -⟩ := hT.world hF
  obtain ⟨j, hq⟩ := hi q (by rw [ht]; exact h0)
  obtain ⟨j1, hq1⟩ := hi q1 (by rw [ht1]; exact h10)
  have hq' : ws[j]? = some (q, .inl (k 0, n0, .inl (y q))) := by rw [hq]; unfold cel; rw [ht, he]
  have hq1' : ws[j1]? = some (q1, .inl (k 0, n1, .inl (y q1))) := by rw [hq1]; unfold cel; rw [ht1, he1]
  exact va_copyi (ty := .int) hexec hb hml hown hlink hnat hstat hini hK hP hD hS j j1 0 0 hq' hq1' rfl rfl rfl h1 h2 h3 h4 h5 (fun i hi => rfl) hframes hlocals hdg (fun H1 locs1 hP1 _ hS1 => kk H1 locs1 (tw_set hi hq1' hP1 ht1 (by rw [nwy_i]; exact he1 _) (fun x hx => nwy_o hx) (fun _ _ => rfl)) hS1)
theorem tw_newi (hexec : p.tables.exec = Jvm.exec) (hb : c.code = cc) (harr : (Cond.arrayClass .int).before args s = true) (hK : va_K D vwCl (tyl k) s) (hT : tw D a k τ ln y g H) (hF : ∀ q, τ q ≠ 0 → A q) (hS : va_S A H0 H locs) (hA : ∀ q : Nat, H0.size ≤ q → A q)
    {n : Int32} {N' : Nat} (hn : ¬ n < 0) (hN : n.toNatClampNeg = N') (hbytes : N' * componentBytes .int ≤ 536870912) (hcells : cells + 1 ≤ R.cells) (hslots : slots + N' ≤ R.slots) (hdg : decode cc pc = .ok (.newarray .int, 2))
    (kk : ∀ (q : Nat) (H1 : Heap), τ q = 0 → A q → tw D a k (nwt τ q 6) (upn ln q N') (nwy y q (fun _ => 0)) g H1 → va_S A H0 H1 locs →
      W p l e R s m args below meth c H1 locs (cells + 1) (slots + N') Q (F0 m (pc + 2) ls (.ref q :: rest))) : W p l e R s m args below meth c H locs cells slots Q (F0 m pc ls (.int n :: rest)) := by
  obtain ⟨ws, hP, hD, hi, -⟩ := hT.world hF
  refine va_newa (atype := .int) (ty := .int) hexec hb harr rfl hK hP hD hS hA (N' := N') (a0 := (N', .inl (fun _ => 0))) (fun _ => rfl) hn hN hbytes hcells hslots hdg (fun q cA H1 hK1 hP1 hD1 hS1 => ?_)
  have hc : k 0 = cA := cI_one hK1 (k1 := 0) (k2 := 9) rfl rfl
  subst hc
  obtain ⟨z1, z2, z3⟩ := tw_push (t := 6) (y' := nwy y q (fun _ => 0)) (g' := g) (ln' := upn ln q N') hi hP1 hD1 (by rw [nwy_i, upn_i]; rfl) (fun x hx => nwy_o hx) (fun _ _ => rfl) (fun x hx => upn_o hx)
  exact kk q H1 z1 z2 z3 hS1
theorem tw_clone (hexec : p.tables.exec = Jvm.exec) (hb : c.code = cc) (hml : c.maxLocals = ls.size) {own ad : String} {index : Nat} (hown : s.vm.findClass own = some m.cls)
    (hlink : (Cond.methodLink own index ⟨ad, "clone", "()Ljava/lang/Object;"⟩).before args s = true) (hsame : (Cond.sameMethod ad "java/lang/Object" "clone" "()Ljava/lang/Object;").before args s = true)
    (hnat : (Cond.native ⟨"java/lang/Object", "clone", "()Ljava/lang/Object;"⟩).before args s = true) (hinst : (Cond.instanceMethod ⟨"java/lang/Object", "clone", "()Ljava/lang/Object;"⟩).before args s = true)
    (hsel : (Cond.selects ad ⟨ad, "clone", "()Ljava/lang/Object;"⟩ ⟨"java/lang/Object", "clone", "()Ljava/lang/Object;"⟩).before args s = true) (hcl : va_Nw (.castable ad "java/lang/Cloneable") s)
    (hK : va_K D vwCl (tyl k) s) (hT : tw D a k τ ln y g H) (hF : ∀ q, τ q ≠ 0 → A q) (hS : va_S A H0 H locs) (hA : ∀ q : Nat, H0.size ≤ q → A q) {n : Nat} (ht : τ q = t) (h0 : t ≠ 0) (he : cl_ a k (ln q) (y q) (g q) t = .inl (k 0, n, .inl (y q)))
    (hnm : s.vm.findClass ad = some (k 0))
    (hframes : 1 ≤ R.frames) (hlocals : (rest.map fun v => v.category).sum + 14 ≤ R.locals) (hcells : cells + 1 ≤ R.cells) (hslots : slots + n ≤ R.slots) (hdg : decode cc pc = .ok (.invokevirtual index, 3))
    (kk : ∀ (q1 : Nat) (H1 : Heap), τ q1 = 0 → A q1 → tw D a k (nwt τ q1 6) (upn ln q1 n) (nwy y q1 (y q)) g H1 → va_S A H0 H1 locs →
      W p l e R s m args below meth c H1 locs (cells + 1) (slots + n) Q (F0 m (pc + 3) ls (.ref q1 :: rest))) : W p l e R s m args below meth c H locs cells slots Q (F0 m pc ls (.ref q :: rest)) := by
  obtain ⟨ws, hP, hD, hi, -⟩ := hT.world hF
  obtain ⟨j, hq⟩ := hi q (by rw [ht]; exact h0)
  have hq' : ws[j]? = some (q, .inl (k 0, n, .inl (y q))) := by rw [hq]; unfold cel; rw [ht, he]
  refine va_clone (ty := .int) hexec hb hml hown hlink hsame hnat hinst hsel hcl hK hP hD hS hA j 0 hq' rfl hnm (fun i v hv => ?_) hframes hlocals hcells hslots hdg (fun q1 H1 hK1 hP1 hD1 hS1 => ?_)
  · have hv2 : (arrV (k 0) n (fun j => .int (y q j))).slots[i]? = some v := hv
    obtain ⟨hi2, hv3⟩ := Array.getElem?_eq_some_iff.mp hv2
    have : ∃ x : Int32, v = .int x := by
      rw [← hv3]
      exact ⟨y q i, by simp [arrV]⟩
    obtain ⟨x, rfl⟩ := this
    rfl
  · obtain ⟨z1, z2, z3⟩ := tw_push (t := 6) (y' := nwy y q1 (y q)) (g' := g) (ln' := upn ln q1 n) hi hP1 hD1 (by rw [nwy_i, upn_i]; rfl) (fun x hx => nwy_o hx) (fun _ _ => rfl) (fun x hx => upn_o hx)
    exact kk q1 H1 z1 z2 z3 hS1
theorem tw_castA (hexec : p.tables.exec = Jvm.exec) (hb : c.code = cc) {own nm : String} {index : Nat} (hown : s.vm.findClass own = some m.cls) (hlink : (Cond.classLink own index nm).before args s = true) (hT : tw D a k τ ln y g H) (ht : τ q = t) (h0 : t ≠ 0) {x : vp_A} (he : cl_ a k (ln q) (y q) (g q) t = .inl (k 0, x)) (hnm : s.vm.findClass nm = some (k 0)) (hdg : decode cc pc = .ok (.checkcast index, 3))
    (kk : W p l e R s m args below meth c H locs cells slots Q (F0 m (pc + 3) ls (.ref q :: rest))) : W p l e R s m args below meth c H locs cells slots Q (F0 m pc ls (.ref q :: rest)) :=
  va_castA hexec hb hown hlink (hT.one ht h0 he) 0 rfl hnm hdg kk
end TWM
section ICM
variable {a : Nat → Nat} {u : Nat → Int} {τ ln : Nat → Nat} {y : Nat → Nat → Int32} {g : Nat → Nat → Option Nat}
theorem ic_lt {n : Int} {t q s : Nat} {f : Nat → Option Nat} (h : ic_li n t τ f) (hq : τ q ≠ t) : ic_li n t (nwt τ q s) f := fun j hj => by
  obtain ⟨x, h1, h2⟩ := h j hj
  exact ⟨x, h1, by rw [nwt_o (fun e => hq (by rw [← e]; exact h2))]; exact h2⟩
/-- a new kind at an address that was not ours (or was being made) -/
theorem IC.nw (h : IC a u τ ln y g) {q s t : Nat} {f : Nat → Int32} (hq : τ q = s) (hs : s = 0 ∨ s = 7 ∨ s = 8) (ht : t ≠ 4 ∧ t ≠ 5) : IC a u (nwt τ q t) ln (nwy y q f) (nwg g q) := by
  obtain ⟨hx, he, hr, ⟨l1, l2, l3, l4, l5, l6⟩, hu, hc⟩ := h
  have ne : ∀ j ∈ fxs, a j ≠ q := fun j hj e => by have := hx j hj; rw [e, hq] at this; omega
  have n6 : ∀ x, τ x = 6 → x ≠ q := fun x h6 e => by rw [e, hq] at h6; omega
  refine ⟨fun j hj => by rw [nwt_o (ne j hj)]; exact hx j hj, ?_, hr, ?_, ?_, ?_⟩
  · unfold ic_eq
    rw [nwy_o (ne 0 (by decide)), nwy_o (ne 1 (by decide)), nwy_o (ne 2 (by decide)), nwy_o (ne 5 (by decide))]; exact he
  · unfold ic_ls
    rw [nwg_o (ne 10 (by decide)), nwg_o (ne 11 (by decide)), nwg_o (ne 12 (by decide)), nwg_o (ne 13 (by decide)), nwg_o (ne 15 (by decide)), nwg_o (ne 40 (by decide))]
    exact ⟨ic_lt l1 (by omega), ic_lt l2 (by omega), ic_lt l3 (by omega), ic_lt l4 (by omega), ic_lt l5 (by omega), ic_lt l6 (by omega)⟩
  · intro x h5
    by_cases e : x = q
    · rw [e, nwt_i] at h5; exact absurd h5 ht.2
    · rw [nwt_o e] at h5
      obtain ⟨q2, g1, g2, g3⟩ := hu x h5
      exact ⟨q2, by rw [nwg_o e]; exact g1, by rw [nwt_o (n6 q2 g2)]; exact g2, g3⟩
  · intro x h4
    by_cases e : x = q
    · rw [e, nwt_i] at h4; exact absurd h4 ht.1
    · rw [nwt_o e] at h4; rw [nwy_o e]; exact hc x h4
theorem IC.nwa (h : IC a u τ ln y g) {q n : Nat} {f : Nat → Int32} (hq : τ q = 0) : IC a u (nwt τ q 6) (upn ln q n) (nwy y q f) g := by
  obtain ⟨hx, he, hr, ⟨l1, l2, l3, l4, l5, l6⟩, hu, hc⟩ := h
  have ne : ∀ j ∈ fxs, a j ≠ q := fun j hj e => by have := hx j hj; rw [e, hq] at this; omega
  refine ⟨fun j hj => by rw [nwt_o (ne j hj)]; exact hx j hj, ?_, hr, ?_, ?_, ?_⟩
  · unfold ic_eq
    rw [nwy_o (ne 0 (by decide)), nwy_o (ne 1 (by decide)), nwy_o (ne 2 (by decide)), nwy_o (ne 5 (by decide))]; exact he
  · exact ⟨ic_lt l1 (by omega), ic_lt l2 (by omega), ic_lt l3 (by omega), ic_lt l4 (by omega), ic_lt l5 (by omega), ic_lt l6 (by omega)⟩
  · intro x h5
    by_cases e : x = q
    · rw [e, nwt_i] at h5; omega
    · rw [nwt_o e] at h5
      obtain ⟨q2, g1, g2, g3⟩ := hu x h5
      have e2 : q2 ≠ q := fun z => by rw [z, hq] at g2; omega
      exact ⟨q2, g1, by rw [nwt_o e2]; exact g2, by rw [upn_o e2]; exact g3⟩
  · intro x h4
    by_cases e : x = q
    · rw [e, nwt_i] at h4; omega
    · rw [nwt_o e] at h4; rw [nwy_o e]; exact hc x h4
theorem IC.rekR (h : IC a u τ ln y g) {q r : Nat} (hq : τ q = 7) (h1 : g q 2 = some r) (h2 : τ r = 6) (h3 : ln r ≤ 60) : IC a u (nwt τ q 5) ln y g := by
  obtain ⟨hx, he, hr, ⟨l1, l2, l3, l4, l5, l6⟩, hu, hc⟩ := h
  have ne : ∀ j ∈ fxs, a j ≠ q := fun j hj e => by have := hx j hj; rw [e, hq] at this; omega
  have n6 : ∀ x, τ x = 6 → x ≠ q := fun x h6 e => by rw [e, hq] at h6; omega
  refine ⟨fun j hj => by rw [nwt_o (ne j hj)]; exact hx j hj, he, hr, ⟨ic_lt l1 (by omega), ic_lt l2 (by omega), ic_lt l3 (by omega), ic_lt l4 (by omega), ic_lt l5 (by omega), ic_lt l6 (by omega)⟩, ?_, ?_⟩
  · intro x h5
    by_cases e : x = q
    · rw [e]; exact ⟨r, h1, by rw [nwt_o (n6 r h2)]; exact h2, h3⟩
    · rw [nwt_o e] at h5
      obtain ⟨q2, g1, g2, g3⟩ := hu x h5
      exact ⟨q2, g1, by rw [nwt_o (n6 q2 g2)]; exact g2, g3⟩
  · intro x h4
    by_cases e : x = q
    · rw [e, nwt_i] at h4; omega
    · rw [nwt_o e] at h4; exact hc x h4
theorem IC.rekC (h : IC a u τ ln y g) {q : Nat} (hq : τ q = 8) (h1 : 0 ≤ (y q 0).toInt ∧ (y q 0).toInt < 30) : IC a u (nwt τ q 4) ln y g := by
  obtain ⟨hx, he, hr, ⟨l1, l2, l3, l4, l5, l6⟩, hu, hc⟩ := h
  have ne : ∀ j ∈ fxs, a j ≠ q := fun j hj e => by have := hx j hj; rw [e, hq] at this; omega
  have n6 : ∀ x, τ x = 6 → x ≠ q := fun x h6 e => by rw [e, hq] at h6; omega
  refine ⟨fun j hj => by rw [nwt_o (ne j hj)]; exact hx j hj, he, hr, ⟨ic_lt l1 (by omega), ic_lt l2 (by omega), ic_lt l3 (by omega), ic_lt l4 (by omega), ic_lt l5 (by omega), ic_lt l6 (by omega)⟩, ?_, ?_⟩
  · intro x h5
    by_cases e : x = q
    · rw [e, nwt_i] at h5; omega
    · rw [nwt_o e] at h5
      obtain ⟨q2, g1, g2, g3⟩ := hu x h5
      exact ⟨q2, g1, by rw [nwt_o (n6 q2 g2)]; exact g2, g3⟩
  · intro x h4
    by_cases e : x = q
    · rw [e]; exact h1
    · rw [nwt_o e] at h4; exact hc x h4
theorem ic_lp {n : Int} {t q i : Nat} {f : Nat → Option Nat} (h : ic_li n t τ f) (hq : τ q = t) : ic_li n t τ (va_up f i (some q)) := fun j hj => by
  by_cases e : j = i
  · exact ⟨q, by rw [e]; exact if_pos rfl, hq⟩
  · obtain ⟨x, h1, h2⟩ := h j hj
    exact ⟨x, by rw [show va_up f i (some q) j = f j from if_neg e]; exact h1, h2⟩
theorem IC.upR (h : IC a u τ ln y g) {q i : Nat} {x : Option Nat} (hq : τ q = 7) : IC a u τ ln y (upg g q i x) := by
  obtain ⟨hx, he, hr, hl, hu, hc⟩ := h
  have ne : ∀ j ∈ fxs, a j ≠ q := fun j hj e => by have := hx j hj; rw [e, hq] at this; omega
  refine ⟨hx, he, hr, ?_, ?_, hc⟩
  · unfold ic_ls
    rw [upg_o (ne 10 (by decide)), upg_o (ne 11 (by decide)), upg_o (ne 12 (by decide)), upg_o (ne 13 (by decide)), upg_o (ne 15 (by decide)), upg_o (ne 40 (by decide))]; exact hl
  · intro z h5
    rw [upg_o (fun e => by rw [e, hq] at h5; omega)]; exact hu z h5
end ICM
section ICP
variable {a : Nat → Nat} {u : Nat → Int} {τ ln : Nat → Nat} {y : Nat → Nat → Int32} {g : Nat → Nat → Option Nat} {q i : Nat}
theorem ic_up {n : Int} {t q : Nat} {f : Nat → Option Nat} (h : ic_li n t τ f) (hg : f n.toNat = some q) (hq : τ q = t) (h0 : 0 ≤ n) : ic_li (n + 1) t τ f := fun j hj => by
  by_cases e : (j : Int) < n
  · exact h j e
  · have : j = n.toNat := by omega
    rw [this]; exact ⟨q, hg, hq⟩
theorem IC.put10 (h : IC a u τ ln y g) (hq : τ q = 1) : IC a u τ ln y (upg g (a 10) i (some q)) := by
  obtain ⟨hx, he, hr, ⟨l1, l2, l3, l4, l5, l6⟩, hu, hc⟩ := h
  refine ⟨hx, he, hr, ?_, ?_, hc⟩
  · unfold ic_ls
    rw [upg_o (fx_ne hx (i := 11) (j := 10) (by decide) (by decide) (by decide)), upg_o (fx_ne hx (i := 12) (j := 10) (by decide) (by decide) (by decide)), upg_o (fx_ne hx (i := 13) (j := 10) (by decide) (by decide) (by decide)), upg_o (fx_ne hx (i := 15) (j := 10) (by decide) (by decide) (by decide)), upg_o (fx_ne hx (i := 40) (j := 10) (by decide) (by decide) (by decide))]
    exact ⟨by rw [upg_q]; exact ic_lp l1 hq, l2, l3, l4, l5, l6⟩
  · intro z h5
    rw [upg_o (kd_ne h5 (hx 10 (by decide)) (by decide))]; exact hu z h5
theorem IC.put11 (h : IC a u τ ln y g) (hq : τ q = 2) : IC a u τ ln y (upg g (a 11) i (some q)) := by
  obtain ⟨hx, he, hr, ⟨l1, l2, l3, l4, l5, l6⟩, hu, hc⟩ := h
  refine ⟨hx, he, hr, ?_, ?_, hc⟩
  · unfold ic_ls
    rw [upg_o (fx_ne hx (i := 10) (j := 11) (by decide) (by decide) (by decide)), upg_o (fx_ne hx (i := 12) (j := 11) (by decide) (by decide) (by decide)), upg_o (fx_ne hx (i := 13) (j := 11) (by decide) (by decide) (by decide)), upg_o (fx_ne hx (i := 15) (j := 11) (by decide) (by decide) (by decide)), upg_o (fx_ne hx (i := 40) (j := 11) (by decide) (by decide) (by decide))]
    exact ⟨l1, by rw [upg_q]; exact ic_lp l2 hq, l3, l4, l5, l6⟩
  · intro z h5
    rw [upg_o (kd_ne h5 (hx 11 (by decide)) (by decide))]; exact hu z h5
theorem IC.put12 (h : IC a u τ ln y g) (hq : τ q = 3) : IC a u τ ln y (upg g (a 12) i (some q)) := by
  obtain ⟨hx, he, hr, ⟨l1, l2, l3, l4, l5, l6⟩, hu, hc⟩ := h
  refine ⟨hx, he, hr, ?_, ?_, hc⟩
  · unfold ic_ls
    rw [upg_o (fx_ne hx (i := 10) (j := 12) (by decide) (by decide) (by decide)), upg_o (fx_ne hx (i := 11) (j := 12) (by decide) (by decide) (by decide)), upg_o (fx_ne hx (i := 13) (j := 12) (by decide) (by decide) (by decide)), upg_o (fx_ne hx (i := 15) (j := 12) (by decide) (by decide) (by decide)), upg_o (fx_ne hx (i := 40) (j := 12) (by decide) (by decide) (by decide))]
    exact ⟨l1, l2, by rw [upg_q]; exact ic_lp l3 hq, l4, l5, l6⟩
  · intro z h5
    rw [upg_o (kd_ne h5 (hx 12 (by decide)) (by decide))]; exact hu z h5
theorem IC.put13 (h : IC a u τ ln y g) (hq : τ q = 5) : IC a u τ ln y (upg g (a 13) i (some q)) := by
  obtain ⟨hx, he, hr, ⟨l1, l2, l3, l4, l5, l6⟩, hu, hc⟩ := h
  refine ⟨hx, he, hr, ?_, ?_, hc⟩
  · unfold ic_ls
    rw [upg_o (fx_ne hx (i := 10) (j := 13) (by decide) (by decide) (by decide)), upg_o (fx_ne hx (i := 11) (j := 13) (by decide) (by decide) (by decide)), upg_o (fx_ne hx (i := 12) (j := 13) (by decide) (by decide) (by decide)), upg_o (fx_ne hx (i := 15) (j := 13) (by decide) (by decide) (by decide)), upg_o (fx_ne hx (i := 40) (j := 13) (by decide) (by decide) (by decide))]
    exact ⟨l1, l2, l3, by rw [upg_q]; exact ic_lp l4 hq, l5, l6⟩
  · intro z h5
    rw [upg_o (kd_ne h5 (hx 13 (by decide)) (by decide))]; exact hu z h5
theorem IC.put40 (h : IC a u τ ln y g) (hq : τ q = 4) : IC a u τ ln y (upg g (a 40) i (some q)) := by
  obtain ⟨hx, he, hr, ⟨l1, l2, l3, l4, l5, l6⟩, hu, hc⟩ := h
  refine ⟨hx, he, hr, ?_, ?_, hc⟩
  · unfold ic_ls
    rw [upg_o (fx_ne hx (i := 10) (j := 40) (by decide) (by decide) (by decide)), upg_o (fx_ne hx (i := 11) (j := 40) (by decide) (by decide) (by decide)), upg_o (fx_ne hx (i := 12) (j := 40) (by decide) (by decide) (by decide)), upg_o (fx_ne hx (i := 13) (j := 40) (by decide) (by decide) (by decide)), upg_o (fx_ne hx (i := 15) (j := 40) (by decide) (by decide) (by decide))]
    exact ⟨l1, l2, l3, l4, l5, by rw [upg_q]; exact ic_lp l6 hq⟩
  · intro z h5
    rw [upg_o (kd_ne h5 (hx 40 (by decide)) (by decide))]; exact hu z h5
theorem IC.cnt0 (h : IC a u τ ln y g) {x : Int32} (hx : x.toInt = u 0 + 1) (hm : u 0 + 1 ≤ 4) : IC a (upc u 0 (u 0 + 1)) τ ln (up2 y (a 1) 1 x) g := by
  obtain ⟨h1, ⟨e0, e1, e2, e3, e4, e5, e6, e7, e8⟩, hr, ⟨l1, l2, l3, l4, l5, l6⟩, hu, hc⟩ := h
  refine ⟨h1, ⟨by rw [up2_i]; exact hx, by rw [up2_e (by decide)]; exact e1, by rw [up2_e (by decide)]; exact e2, by rw [up2_e (by decide)]; exact e3, by rw [up2_o (fx_ne h1 (i := 2) (j := 1) (by decide) (by decide) (by decide))]; exact e4, by rw [up2_o (fx_ne h1 (i := 5) (j := 1) (by decide) (by decide) (by decide))]; exact e5, by rw [up2_o (fx_ne h1 (i := 0) (j := 1) (by decide) (by decide) (by decide))]; exact e6, by rw [up2_o (fx_ne h1 (i := 0) (j := 1) (by decide) (by decide) (by decide))]; exact e7, by rw [up2_o (fx_ne h1 (i := 5) (j := 1) (by decide) (by decide) (by decide))]; exact e8⟩, ?_, ⟨l1, l2, l3, l4, l5, l6⟩, hu, ?_⟩
  · have hr2 := hr
    unfold ic_rg at hr2 ⊢
    have w : ∀ n, n ≠ 0 → upc u 0 (u 0 + 1) n = u n := fun n hn => if_neg hn
    have w1 : upc u 0 (u 0 + 1) 0 = u 0 + 1 := if_pos rfl
    rw [w1, w 1 (by decide), w 2 (by decide), w 3 (by decide), w 4 (by decide), w 5 (by decide), w 6 (by decide), w 7 (by decide)]
    omega
  · intro z h4
    rw [up2_o (kd_ne h4 (h1 1 (by decide)) (by decide))]; exact hc z h4
theorem IC.cnt1 (h : IC a u τ ln y g) {x : Int32} (hx : x.toInt = u 1 + 1) (hm : u 1 + 1 ≤ 8) {q : Nat} (hg : g (a 10) (u 1).toNat = some q) (hq : τ q = 1) : IC a (upc u 1 (u 1 + 1)) τ ln (up2 y (a 1) 3 x) g := by
  obtain ⟨h1, ⟨e0, e1, e2, e3, e4, e5, e6, e7, e8⟩, hr, ⟨l1, l2, l3, l4, l5, l6⟩, hu, hc⟩ := h
  refine ⟨h1, ⟨by rw [up2_e (by decide)]; exact e0, by rw [up2_i]; exact hx, by rw [up2_e (by decide)]; exact e2, by rw [up2_e (by decide)]; exact e3, by rw [up2_o (fx_ne h1 (i := 2) (j := 1) (by decide) (by decide) (by decide))]; exact e4, by rw [up2_o (fx_ne h1 (i := 5) (j := 1) (by decide) (by decide) (by decide))]; exact e5, by rw [up2_o (fx_ne h1 (i := 0) (j := 1) (by decide) (by decide) (by decide))]; exact e6, by rw [up2_o (fx_ne h1 (i := 0) (j := 1) (by decide) (by decide) (by decide))]; exact e7, by rw [up2_o (fx_ne h1 (i := 5) (j := 1) (by decide) (by decide) (by decide))]; exact e8⟩, ?_, ⟨ic_up l1 hg hq hr.2.1.1, l2, l3, l4, l5, l6⟩, hu, ?_⟩
  · have hr2 := hr
    unfold ic_rg at hr2 ⊢
    have w : ∀ n, n ≠ 1 → upc u 1 (u 1 + 1) n = u n := fun n hn => if_neg hn
    have w1 : upc u 1 (u 1 + 1) 1 = u 1 + 1 := if_pos rfl
    rw [w 0 (by decide), w1, w 2 (by decide), w 3 (by decide), w 4 (by decide), w 5 (by decide), w 6 (by decide), w 7 (by decide)]
    omega
  · intro z h4
    rw [up2_o (kd_ne h4 (h1 1 (by decide)) (by decide))]; exact hc z h4
theorem IC.cnt2 (h : IC a u τ ln y g) {x : Int32} (hx : x.toInt = u 2 + 1) (hm : u 2 + 1 ≤ 30) {q : Nat} (hg : g (a 11) (u 2).toNat = some q) (hq : τ q = 2) : IC a (upc u 2 (u 2 + 1)) τ ln (up2 y (a 1) 5 x) g := by
  obtain ⟨h1, ⟨e0, e1, e2, e3, e4, e5, e6, e7, e8⟩, hr, ⟨l1, l2, l3, l4, l5, l6⟩, hu, hc⟩ := h
  refine ⟨h1, ⟨by rw [up2_e (by decide)]; exact e0, by rw [up2_e (by decide)]; exact e1, by rw [up2_i]; exact hx, by rw [up2_e (by decide)]; exact e3, by rw [up2_o (fx_ne h1 (i := 2) (j := 1) (by decide) (by decide) (by decide))]; exact e4, by rw [up2_o (fx_ne h1 (i := 5) (j := 1) (by decide) (by decide) (by decide))]; exact e5, by rw [up2_o (fx_ne h1 (i := 0) (j := 1) (by decide) (by decide) (by decide))]; exact e6, by rw [up2_o (fx_ne h1 (i := 0) (j := 1) (by decide) (by decide) (by decide))]; exact e7, by rw [up2_o (fx_ne h1 (i := 5) (j := 1) (by decide) (by decide) (by decide))]; exact e8⟩, ?_, ⟨l1, ic_up l2 hg hq hr.2.2.1.1, l3, l4, l5, l6⟩, hu, ?_⟩
  · have hr2 := hr
    unfold ic_rg at hr2 ⊢
    have w : ∀ n, n ≠ 2 → upc u 2 (u 2 + 1) n = u n := fun n hn => if_neg hn
    have w1 : upc u 2 (u 2 + 1) 2 = u 2 + 1 := if_pos rfl
    rw [w 0 (by decide), w 1 (by decide), w1, w 3 (by decide), w 4 (by decide), w 5 (by decide), w 6 (by decide), w 7 (by decide)]
    omega
  · intro z h4
    rw [up2_o (kd_ne h4 (h1 1 (by decide)) (by decide))]; exact hc z h4
theorem IC.cnt3 (h : IC a u τ ln y g) {x : Int32} (hx : x.toInt = u 3 + 1) (hm : u 3 + 1 ≤ 30) {q : Nat} (hg : g (a 12) (u 3).toNat = some q) (hq : τ q = 3) : IC a (upc u 3 (u 3 + 1)) τ ln (up2 y (a 1) 7 x) g := by
  obtain ⟨h1, ⟨e0, e1, e2, e3, e4, e5, e6, e7, e8⟩, hr, ⟨l1, l2, l3, l4, l5, l6⟩, hu, hc⟩ := h
  refine ⟨h1, ⟨by rw [up2_e (by decide)]; exact e0, by rw [up2_e (by decide)]; exact e1, by rw [up2_e (by decide)]; exact e2, by rw [up2_i]; exact hx, by rw [up2_o (fx_ne h1 (i := 2) (j := 1) (by decide) (by decide) (by decide))]; exact e4, by rw [up2_o (fx_ne h1 (i := 5) (j := 1) (by decide) (by decide) (by decide))]; exact e5, by rw [up2_o (fx_ne h1 (i := 0) (j := 1) (by decide) (by decide) (by decide))]; exact e6, by rw [up2_o (fx_ne h1 (i := 0) (j := 1) (by decide) (by decide) (by decide))]; exact e7, by rw [up2_o (fx_ne h1 (i := 5) (j := 1) (by decide) (by decide) (by decide))]; exact e8⟩, ?_, ⟨l1, l2, ic_up l3 hg hq hr.2.2.2.1.1, l4, l5, l6⟩, hu, ?_⟩
  · have hr2 := hr
    unfold ic_rg at hr2 ⊢
    have w : ∀ n, n ≠ 3 → upc u 3 (u 3 + 1) n = u n := fun n hn => if_neg hn
    have w1 : upc u 3 (u 3 + 1) 3 = u 3 + 1 := if_pos rfl
    rw [w 0 (by decide), w 1 (by decide), w 2 (by decide), w1, w 4 (by decide), w 5 (by decide), w 6 (by decide), w 7 (by decide)]
    omega
  · intro z h4
    rw [up2_o (kd_ne h4 (h1 1 (by decide)) (by decide))]; exact hc z h4
theorem IC.cnt4 (h : IC a u τ ln y g) {x : Int32} (hx : x.toInt = u 4 + 1) (hm : u 4 + 1 ≤ 20) {q : Nat} (hg : g (a 13) (u 4).toNat = some q) (hq : τ q = 5) : IC a (upc u 4 (u 4 + 1)) τ ln (up2 y (a 2) 1 x) g := by
  obtain ⟨h1, ⟨e0, e1, e2, e3, e4, e5, e6, e7, e8⟩, hr, ⟨l1, l2, l3, l4, l5, l6⟩, hu, hc⟩ := h
  refine ⟨h1, ⟨by rw [up2_o (fx_ne h1 (i := 1) (j := 2) (by decide) (by decide) (by decide))]; exact e0, by rw [up2_o (fx_ne h1 (i := 1) (j := 2) (by decide) (by decide) (by decide))]; exact e1, by rw [up2_o (fx_ne h1 (i := 1) (j := 2) (by decide) (by decide) (by decide))]; exact e2, by rw [up2_o (fx_ne h1 (i := 1) (j := 2) (by decide) (by decide) (by decide))]; exact e3, by rw [up2_i]; exact hx, by rw [up2_o (fx_ne h1 (i := 5) (j := 2) (by decide) (by decide) (by decide))]; exact e5, by rw [up2_o (fx_ne h1 (i := 0) (j := 2) (by decide) (by decide) (by decide))]; exact e6, by rw [up2_o (fx_ne h1 (i := 0) (j := 2) (by decide) (by decide) (by decide))]; exact e7, by rw [up2_o (fx_ne h1 (i := 5) (j := 2) (by decide) (by decide) (by decide))]; exact e8⟩, ?_, ⟨l1, l2, l3, ic_up l4 hg hq hr.2.2.2.2.1.1, l5, l6⟩, hu, ?_⟩
  · have hr2 := hr
    unfold ic_rg at hr2 ⊢
    have w : ∀ n, n ≠ 4 → upc u 4 (u 4 + 1) n = u n := fun n hn => if_neg hn
    have w1 : upc u 4 (u 4 + 1) 4 = u 4 + 1 := if_pos rfl
    rw [w 0 (by decide), w 1 (by decide), w 2 (by decide), w 3 (by decide), w1, w 5 (by decide), w 6 (by decide), w 7 (by decide)]
    omega
  · intro z h4
    rw [up2_o (kd_ne h4 (h1 2 (by decide)) (by decide))]; exact hc z h4
theorem IC.cnt5 (h : IC a u τ ln y g) {x : Int32} (hx : x.toInt = u 5 + 1) (hm : u 5 + 1 ≤ 40) {q : Nat} (hg : g (a 40) (u 5).toNat = some q) (hq : τ q = 4) : IC a (upc u 5 (u 5 + 1)) τ ln (up2 y (a 5) 4 x) g := by
  obtain ⟨h1, ⟨e0, e1, e2, e3, e4, e5, e6, e7, e8⟩, hr, ⟨l1, l2, l3, l4, l5, l6⟩, hu, hc⟩ := h
  refine ⟨h1, ⟨by rw [up2_o (fx_ne h1 (i := 1) (j := 5) (by decide) (by decide) (by decide))]; exact e0, by rw [up2_o (fx_ne h1 (i := 1) (j := 5) (by decide) (by decide) (by decide))]; exact e1, by rw [up2_o (fx_ne h1 (i := 1) (j := 5) (by decide) (by decide) (by decide))]; exact e2, by rw [up2_o (fx_ne h1 (i := 1) (j := 5) (by decide) (by decide) (by decide))]; exact e3, by rw [up2_o (fx_ne h1 (i := 2) (j := 5) (by decide) (by decide) (by decide))]; exact e4, by rw [up2_i]; exact hx, by rw [up2_o (fx_ne h1 (i := 0) (j := 5) (by decide) (by decide) (by decide))]; exact e6, by rw [up2_o (fx_ne h1 (i := 0) (j := 5) (by decide) (by decide) (by decide))]; exact e7, by rw [up2_e (by decide)]; exact e8⟩, ?_, ⟨l1, l2, l3, l4, l5, ic_up l6 hg hq hr.2.2.2.2.2.1.1⟩, hu, ?_⟩
  · have hr2 := hr
    unfold ic_rg at hr2 ⊢
    have w : ∀ n, n ≠ 5 → upc u 5 (u 5 + 1) n = u n := fun n hn => if_neg hn
    have w1 : upc u 5 (u 5 + 1) 5 = u 5 + 1 := if_pos rfl
    rw [w 0 (by decide), w 1 (by decide), w 2 (by decide), w 3 (by decide), w 4 (by decide), w1, w 6 (by decide), w 7 (by decide)]
    omega
  · intro z h4
    rw [up2_o (kd_ne h4 (h1 5 (by decide)) (by decide))]; exact hc z h4
theorem IC.set6 (h : IC a u τ ln y g) {x : Int32} {v : Int} (hx : x.toInt = v) (h0 : 0 ≤ v) (hm : v ≤ 100) : IC a (upc u 6 v) τ ln (up2 y (a 0) 7 x) g := by
  obtain ⟨h1, ⟨e0, e1, e2, e3, e4, e5, e6, e7, e8⟩, hr, hl, hu, hc⟩ := h
  refine ⟨h1, ⟨by rw [up2_o (fx_ne h1 (i := 1) (j := 0) (by decide) (by decide) (by decide))]; exact e0, by rw [up2_o (fx_ne h1 (i := 1) (j := 0) (by decide) (by decide) (by decide))]; exact e1, by rw [up2_o (fx_ne h1 (i := 1) (j := 0) (by decide) (by decide) (by decide))]; exact e2, by rw [up2_o (fx_ne h1 (i := 1) (j := 0) (by decide) (by decide) (by decide))]; exact e3, by rw [up2_o (fx_ne h1 (i := 2) (j := 0) (by decide) (by decide) (by decide))]; exact e4, by rw [up2_o (fx_ne h1 (i := 5) (j := 0) (by decide) (by decide) (by decide))]; exact e5, by rw [up2_i]; exact hx, by rw [up2_e (by decide)]; exact e7, by rw [up2_o (fx_ne h1 (i := 5) (j := 0) (by decide) (by decide) (by decide))]; exact e8⟩, ?_, hl, hu, ?_⟩
  · have hr2 := hr
    unfold ic_rg at hr2 ⊢
    have w : ∀ n, n ≠ 6 → upc u 6 v n = u n := fun n hn => if_neg hn
    have w1 : upc u 6 v 6 = v := if_pos rfl
    rw [w 0 (by decide), w 1 (by decide), w 2 (by decide), w 3 (by decide), w 4 (by decide), w 5 (by decide), w1, w 7 (by decide)]
    omega
  · intro z h4
    rw [up2_o (kd_ne h4 (h1 0 (by decide)) (by decide))]; exact hc z h4
theorem IC.set7 (h : IC a u τ ln y g) {x : Int32} {v : Int} (hx : x.toInt = v) (h0 : 0 ≤ v) (hm : v ≤ 8) : IC a (upc u 7 v) τ ln (up2 y (a 0) 9 x) g := by
  obtain ⟨h1, ⟨e0, e1, e2, e3, e4, e5, e6, e7, e8⟩, hr, hl, hu, hc⟩ := h
  refine ⟨h1, ⟨by rw [up2_o (fx_ne h1 (i := 1) (j := 0) (by decide) (by decide) (by decide))]; exact e0, by rw [up2_o (fx_ne h1 (i := 1) (j := 0) (by decide) (by decide) (by decide))]; exact e1, by rw [up2_o (fx_ne h1 (i := 1) (j := 0) (by decide) (by decide) (by decide))]; exact e2, by rw [up2_o (fx_ne h1 (i := 1) (j := 0) (by decide) (by decide) (by decide))]; exact e3, by rw [up2_o (fx_ne h1 (i := 2) (j := 0) (by decide) (by decide) (by decide))]; exact e4, by rw [up2_o (fx_ne h1 (i := 5) (j := 0) (by decide) (by decide) (by decide))]; exact e5, by rw [up2_e (by decide)]; exact e6, by rw [up2_i]; exact hx, by rw [up2_o (fx_ne h1 (i := 5) (j := 0) (by decide) (by decide) (by decide))]; exact e8⟩, ?_, hl, hu, ?_⟩
  · have hr2 := hr
    unfold ic_rg at hr2 ⊢
    have w : ∀ n, n ≠ 7 → upc u 7 v n = u n := fun n hn => if_neg hn
    have w1 : upc u 7 v 7 = v := if_pos rfl
    rw [w 0 (by decide), w 1 (by decide), w 2 (by decide), w 3 (by decide), w 4 (by decide), w 5 (by decide), w 6 (by decide), w1]
    omega
  · intro z h4
    rw [up2_o (kd_ne h4 (h1 0 (by decide)) (by decide))]; exact hc z h4
theorem IC.set8 (h : IC a u τ ln y g) {x : Int32} {v : Int} (hx : x.toInt = v) : IC a (upc u 8 v) τ ln (up2 y (a 5) 5 x) g := by
  obtain ⟨h1, ⟨e0, e1, e2, e3, e4, e5, e6, e7, e8⟩, hr, hl, hu, hc⟩ := h
  refine ⟨h1, ⟨by rw [up2_o (fx_ne h1 (i := 1) (j := 5) (by decide) (by decide) (by decide))]; exact e0, by rw [up2_o (fx_ne h1 (i := 1) (j := 5) (by decide) (by decide) (by decide))]; exact e1, by rw [up2_o (fx_ne h1 (i := 1) (j := 5) (by decide) (by decide) (by decide))]; exact e2, by rw [up2_o (fx_ne h1 (i := 1) (j := 5) (by decide) (by decide) (by decide))]; exact e3, by rw [up2_o (fx_ne h1 (i := 2) (j := 5) (by decide) (by decide) (by decide))]; exact e4, by rw [up2_e (by decide)]; exact e5, by rw [up2_o (fx_ne h1 (i := 0) (j := 5) (by decide) (by decide) (by decide))]; exact e6, by rw [up2_o (fx_ne h1 (i := 0) (j := 5) (by decide) (by decide) (by decide))]; exact e7, by rw [up2_i]; exact hx⟩, hr, hl, hu, ?_⟩
  intro z h4
  rw [up2_o (kd_ne h4 (h1 5 (by decide)) (by decide))]; exact hc z h4
theorem IC.und (h : IC a u τ ln y g) {x : Int32} (hq : τ q = 4) : IC a u τ ln (up2 y q 5 x) g := by
  obtain ⟨h1, ⟨e0, e1, e2, e3, e4, e5, e6, e7, e8⟩, hr, hl, hu, hc⟩ := h
  have ne : ∀ j ∈ fxs, a j ≠ q := fun j hj e => by have := h1 j hj; rw [e, hq] at this; omega
  refine ⟨h1, ?_, hr, hl, hu, fun z h4 => ?_⟩
  · unfold ic_eq
    rw [up2_o (ne 0 (by decide)), up2_o (ne 1 (by decide)), up2_o (ne 2 (by decide)), up2_o (ne 5 (by decide))]
    exact ⟨e0, e1, e2, e3, e4, e5, e6, e7, e8⟩
  · by_cases e : z = q
    · rw [e, up2_e (by decide)]; exact hc q hq
    · rw [up2_o e]; exact hc z h4
end ICP

theorem ag_nw {τ : Nat → Nat} {y : Nat → Nat → Int32} {q t : Nat} {f : Nat → Int32} (ht : τ q = t) : ag τ [t] y (nwy y q f) := fun z hz => nwy_o (fun e => hz (by rw [e, ht]; exact List.mem_singleton_self _))
theorem cp_n0 {n : Int32} {z : Int} (hn : n.toInt = z) (h : 0 ≤ z) : ¬ n < 0 := fun q => by have := z_lt hn (zk (x := 0) 0 rfl) q; omega
theorem cp_le {n : Int32} {z : Int} {m : Nat} (hn : n.toInt = z) (h0 : 0 ≤ z) (h : z ≤ m) : (0 : Int32).toNatClampNeg + n.toNatClampNeg ≤ m := by
  rw [z_nat hn]; show 0 + z.toNat ≤ m; omega
theorem mono.tr {τ τ1 τ2 : Nat → Nat} {s1 s2 : Nat} (h : mono τ τ1 s1) (h2 : mono τ1 τ2 s2) (hs : s1 ≤ s2) : mono τ τ2 s1 := ⟨fun q a b => by
    have e := h.1 q a b
    rw [h2.1 q (by rw [e]; exact a) (by rw [e]; exact b), e], fun q hq => by
    rcases h2.2 q hq with z | z
    · exact h.2 q z
    · exact Or.inr (Nat.le_trans hs z)⟩
theorem kpM.tr {τ τ1 : Nat → Nat} {sz : Nat} {y y1 y2 : Nat → Nat → Int32} {g g1 g2 : Nat → Nat → Option Nat} (h : kpM τ y g y1 g1) (hm : mono τ τ1 sz) (h2 : kpM τ1 y1 g1 y2 g2) : kpM τ y g y2 g2 := fun q hq => by
  have ho := kpt_ok hq
  have e := hm.1 q ho.1 ho.2
  have h3 := h2 q (by rw [e]; exact hq)
  exact ⟨h3.1.trans (h q hq).1, h3.2.trans (h q hq).2⟩
theorem kpM0.tr {τ τ1 : Nat → Nat} {sz : Nat} {y y1 y2 : Nat → Nat → Int32} {g g1 g2 : Nat → Nat → Option Nat} (h : kpM0 τ y g y1 g1) (hm : mono τ τ1 sz) (h2 : kpM0 τ1 y1 g1 y2 g2) : kpM0 τ y g y2 g2 := fun q hq => by
  have e := hm.1 q (by omega) (by omega)
  have h3 := h2 q (by rw [e]; exact hq)
  exact ⟨h3.1.trans (h q hq).1, h3.2.trans (h q hq).2⟩
def vl (n m : Int) (f : Nat → Int32) : Prop := ∀ i : Nat, (i : Int) < n → 0 ≤ (f i).toInt ∧ (f i).toInt < m
theorem vl_0 {n m : Int} {f : Nat → Int32} (h : n ≤ 0) : vl n m f := fun i hi => by omega
theorem vl_at {n m : Int} {f : Nat → Int32} (h : vl n m f) {x : Int32} {z : Int} (hx : x.toInt = z) (h0 : 0 ≤ z) (h1 : z < n) : 0 ≤ (f x.toNatClampNeg).toInt ∧ (f x.toNatClampNeg).toInt < m := h _ (by rw [z_nat hx]; omega)
theorem vl_step {n m n2 : Int} {y y1 y2 : Nat → Nat → Int32} {q : Nat} {i x : Int32} {z zx : Int} (h : vl n m (y q)) (h1 : y1 = up2 y q i.toNatClampNeg x) (hi : i.toInt = z) (h0 : 0 ≤ z) (hn : z = n) (hz : x.toInt = zx) (hx : 0 ≤ zx) (hx2 : zx < m) (h2 : y2 q = y1 q) (hm : n2 = n + 1) : vl n2 m (y2 q) := fun j hj => by
  rw [h2, h1, up2_q]
  by_cases e : j = i.toNatClampNeg
  · rw [show upd (y q) i.toNatClampNeg x j = x from if_pos e, hz]; exact ⟨hx, hx2⟩
  · rw [show upd (y q) i.toNatClampNeg x j = y q j from if_neg e]
    exact h j (by rw [z_nat hi] at e; omega)
theorem nwy_2 {y : Nat → Nat → Int32} {q : Nat} {f f2 : Nat → Int32} : nwy (nwy y q f) q f2 = nwy y q f2 := by
  funext z; unfold nwy; by_cases h : z = q
  · rw [if_pos h, if_pos h]
  · rw [if_neg h, if_neg h, if_neg h]
theorem vl_mv {n n' m : Int} {f f' : Nat → Int32} (h : vl n m f) (hn : n' = n) (hf : f' = f) : vl n' m f' := by rw [hn, hf]; exact h
def awt (τ : Nat → Nat) (f : Nat → Option Nat) (n : Int) : Prop := ∃ q, f n.toNat = some q ∧ τ q = 3
theorem aw_step {τ : Nat → Nat} {g : Nat → Nat → Option Nat} {A q' : Nat} {n z : Int} {x : Int32} (h : z < n → awt τ (g A) n) (hx : x.toInt = z) (h0 : 0 ≤ z) (h1 : z ≤ n) (hq : τ q' = 3) : awt τ (upg g A x.toNatClampNeg (some q') A) n := by
  unfold awt; rw [z_nat hx]
  by_cases e : z = n
  · rw [e]; exact ⟨q', upg_i, hq⟩
  · obtain ⟨q, h2, h3⟩ := h (by omega)
    exact ⟨q, by rw [upg_e (by omega)]; exact h2, h3⟩
theorem tw_last {p : Program} {l : Launch} {e : Env} {R : Room} {s : State} {m : MethodId} {args : Array Value} {below : List Frame} {meth : Method} {c : Code} {H : Heap} {locs : List Loc} {cells slots : Nat} {Q : State → Prop} {cc : ByteArray} {pc : Nat} {ls : Array Slot} {rest : List Value} {D : va_G} {A : Nat → Prop} {H0 : Heap} {a : Nat → Nat} {k : Nat → ClassId} {τ ln : Nat → Nat} {y : Nat → Nat → Int32} {g : Nat → Nat → Option Nat} {q : Nat}
    (hexec : p.tables.exec = Jvm.exec) (hb : c.code = cc) (hK : va_K D vwCl (tyl k) s) (hT : tw D a k τ ln y g H) (hF : ∀ q, τ q ≠ 0 → A q) (hS : va_S A H0 H locs) (ht : τ q = 59) {x : Int32} (hdg : decode cc pc = .ok (.lastore, 1))
    (kk : ∀ (H1 : Heap) (locs1 : List Loc), tw D a k τ ln (up2 y q (0 : Int32).toNatClampNeg x) g H1 → va_S A H0 H1 locs1 → W p l e R s m args below meth c H1 locs1 cells slots Q (F0 m (pc + 1) ls rest)) : W p l e R s m args below meth c H locs cells slots Q (F0 m pc ls (.long x.toInt64 :: .int 0 :: .ref q :: rest)) := by
  obtain ⟨ws, hP, hD, hi, -⟩ := hT.world hF
  obtain ⟨j, hq⟩ := hi q (by rw [ht]; decide)
  have hq' : ws[j]? = some (q, .inl (k 8, 1, .inr (.inl (fun j => (y q j).toInt64)))) := by rw [hq]; unfold cel; rw [ht, cl_e59]
  refine va_last hexec hb hK hP hD hS j 8 hq' rfl (z_in (zk (x := 0) 0 rfl) (by decide) (by decide)) hdg (fun H1 locs1 hP1 _ hS1 => kk H1 locs1 (tw_set hi hq' hP1 ht ?_ (fun x hx => up2_o hx) (fun _ _ => rfl)) hS1)
  rw [up2_q, cl_e59]
  have : (fun j => (upd (y q) (0 : Int32).toNatClampNeg x j).toInt64) = vp_updL (fun j => (y q j).toInt64) (0 : Int32).toNatClampNeg x.toInt64 := by
    funext j; unfold upd vp_updL; split <;> rfl
  rw [this]
