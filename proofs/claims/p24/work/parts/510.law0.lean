/-! THE CLAIM OUT OF ONE WALK OF THE LAW'S BODY. Your part is whole_start (and what it stands on); all else here is the same for every law, but numbers. -/
def R_law : String := "TypingPoolLaw"
def lw_P (b : Addr) (xs : List Int32) (args : Array Value) (s : State) : Prop := args = #[.ref b] ∧ s.IntsAt b xs ∧ xs.length ≤ 5120 ∧ (Jvm.Cond.and given_1 narrow_1).before args s = true
def lw_Q (_ : Array Value) (s : State) (o : Outcome) (t : State) : Prop := o = .returned (some (.int 1)) ∧ Framed s o t [] 601024 7293034
def lw_Z (below : List Frame) (a : Array Value) (s : State) : State → Prop := fun t => ∃ o, t.status = .running ∧ Ended t below o ∧ lw_Q a s o t
/-- the law's own end, with 1 on the stack, nothing written that was there before, its room as the claim has it -/
theorem lw_ret {p : Program} {l : Launch} {e : Env} {s : State} {m : MethodId} {below : List Frame} {meth : Method} {c : Code} {b : Nat} (hx : p.tables.exec = Jvm.exec) (hb : c.code = code) (hr : meth.sig.returnType = ret) (hlocks : meth.locks = false) {pc : Nat} {H : Heap} {ls : Array Slot} (hdg : decode code pc = .ok (.ireturn, 1)) : W p l e room_1 s m #[Value.ref b] below meth c H [] 601024 7293034 (lw_Z below #[Value.ref b] s) (F0 m pc ls [.int 1]) := by
  intro T hT X
  obtain ⟨fs, hret, hrun, hended, hW, hframe⟩ := X.leave (v := some (.int 1)) (hlocks := hlocks) (fun h => by rw [hr] at h; cases h)
  have hmeth' : T.vm.method? m = some meth := X.method'
  refine ⟨T.setFrames fs, ?_, .returned (some (.int 1)), hrun, hended, rfl, ⟨_, rfl⟩, hW, hframe⟩
  jvm_step X.here [X.here.top, hx, hb, hdg, hmeth', hr, ret, narrow_b1]
  (try refine ⟨rfl, ?_⟩); (try refine ⟨rfl, ?_⟩)
  first | (intro acts; rw [hret _ acts rfl rfl rfl]) | rw [hret _ _ rfl rfl rfl]
  exact Steps.refl _
/-- what holds at the law's entry: the machine, the code, the tables' words (any of lw_tbl by 'hts w (by decide +kernel)'), the script of L ints xs at the cell b, what the Statement gives of the start (any of its parts by flat_of_before) -/
def lw_At (p : Program) (s : State) (m : MethodId) (meth : Method) (c : Code) (b L : Nat) (xs : Nat → Int32) : Prop :=
  p.tables.exec = Jvm.exec ∧ c.code = code ∧ meth.sig.returnType = ret ∧ c.maxLocals = 7 ∧ s.vm.findClass R_law = some m.cls ∧ (∀ w ∈ lw_tbl, w.before #[Value.ref b] s = true) ∧ va_X b L xs s s.heap ∧ b < s.heap.size ∧ meth.locks = false ∧ (Jvm.Cond.and given_1 narrow_1).before #[Value.ref b] s = true
theorem IM.kp {a : Nat → Nat} {u : Nat → Int} {τ τ' : Nat → Nat} {y y' : Nat → Nat → Int32} {g g' : Nat → Nat → Option Nat} (h : IM a u τ y) (hk : kpM0 τ y g y' g') (hx' : fx a τ') : IM a u τ' y' := by
  obtain ⟨hx, he, hr, ha⟩ := h
  have e : ∀ j ∈ fxs, 50 ≤ j → y' (a j) = y (a j) := fun j hj h5 => (hk (a j) (by rw [hx j hj]; omega)).1
  refine ⟨hx', ?_, hr, ?_⟩
  · unfold im_eq; rw [e 50 (by decide) (by decide)]; exact he
  · unfold im_ar; rw [e 63 (by decide) (by decide), e 69 (by decide) (by decide), e 53 (by decide) (by decide), e 72 (by decide) (by decide), e 77 (by decide) (by decide)]; exact ha
theorem kpM0.fx {a τ : Nat → Nat} {y y' : Nat → Nat → Int32} {g g' : Nat → Nat → Option Nat} (hk : kpM0 τ y g y' g') (hx : fx a τ) {j : Nat} (hj : j ∈ fxs) (h5 : 50 ≤ j) : y' (a j) = y (a j) := (hk (a j) (by rw [hx j hj]; omega)).1
theorem IC.agg {a : Nat → Nat} {c : Nat → Int} {τ ln : Nat → Nat} {y : Nat → Nat → Int32} {g g' : Nat → Nat → Option Nat} (h : IC a c τ ln y g) (hg : agg τ g g') : IC a c τ ln y g' := by
  obtain ⟨hx, he, hr, hl, hu, hc⟩ := h
  have e : ∀ j ∈ fxs, j ≠ 50 → g' (a j) = g (a j) := fun j hj hn => hg _ (by rw [hx j hj]; omega)
  refine ⟨hx, he, hr, ?_, fun q hq => ?_, hc⟩
  · unfold ic_ls; rw [e 10 (by decide) (by decide), e 11 (by decide) (by decide), e 12 (by decide) (by decide), e 13 (by decide) (by decide), e 15 (by decide) (by decide), e 40 (by decide) (by decide)]; exact hl
  · rw [hg q (by rw [hq]; decide)]; exact hu q hq
theorem tb_0_29 (x : Int32) : x = 0 ∨ x = 1 ∨ x = 2 ∨ x = 3 ∨ x = 4 ∨ x = 5 ∨ x = 6 ∨ x = 7 ∨ x = 8 ∨ x = 9 ∨ x = 10 ∨ x = 11 ∨ x = 12 ∨ x = 13 ∨ x = 14 ∨ x = 15 ∨ x = 16 ∨ x = 17 ∨ x = 18 ∨ x = 19 ∨ x = 20 ∨ x = 21 ∨ x = 22 ∨ x = 23 ∨ x = 24 ∨ x = 25 ∨ x = 26 ∨ x = 27 ∨ x = 28 ∨ x = 29 ∨ (x.toInt < 0 ∨ 29 < x.toInt) := by
  by_cases h0 : x = 0
  · exact Or.inl h0
  by_cases h1 : x = 1
  · exact Or.inr (Or.inl h1)
  by_cases h2 : x = 2
  · exact Or.inr (Or.inr (Or.inl h2))
  by_cases h3 : x = 3
  · exact Or.inr (Or.inr (Or.inr (Or.inl h3)))
  by_cases h4 : x = 4
  · exact Or.inr (Or.inr (Or.inr (Or.inr (Or.inl h4))))
  by_cases h5 : x = 5
  · exact Or.inr (Or.inr (Or.inr (Or.inr (Or.inr (Or.inl h5)))))
  by_cases h6 : x = 6
  · exact Or.inr (Or.inr (Or.inr (Or.inr (Or.inr (Or.inr (Or.inl h6))))))
  by_cases h7 : x = 7
  · exact Or.inr (Or.inr (Or.inr (Or.inr (Or.inr (Or.inr (Or.inr (Or.inl h7)))))))
  by_cases h8 : x = 8
  · exact Or.inr (Or.inr (Or.inr (Or.inr (Or.inr (Or.inr (Or.inr (Or.inr (Or.inl h8))))))))
  by_cases h9 : x = 9
  · exact Or.inr (Or.inr (Or.inr (Or.inr (Or.inr (Or.inr (Or.inr (Or.inr (Or.inr (Or.inl h9)))))))))
  by_cases h10 : x = 10
  · exact Or.inr (Or.inr (Or.inr (Or.inr (Or.inr (Or.inr (Or.inr (Or.inr (Or.inr (Or.inr (Or.inl h10))))))))))
  by_cases h11 : x = 11
  · exact Or.inr (Or.inr (Or.inr (Or.inr (Or.inr (Or.inr (Or.inr (Or.inr (Or.inr (Or.inr (Or.inr (Or.inl h11)))))))))))
  by_cases h12 : x = 12
  · exact Or.inr (Or.inr (Or.inr (Or.inr (Or.inr (Or.inr (Or.inr (Or.inr (Or.inr (Or.inr (Or.inr (Or.inr (Or.inl h12))))))))))))
  by_cases h13 : x = 13
  · exact Or.inr (Or.inr (Or.inr (Or.inr (Or.inr (Or.inr (Or.inr (Or.inr (Or.inr (Or.inr (Or.inr (Or.inr (Or.inr (Or.inl h13)))))))))))))
  by_cases h14 : x = 14
  · exact Or.inr (Or.inr (Or.inr (Or.inr (Or.inr (Or.inr (Or.inr (Or.inr (Or.inr (Or.inr (Or.inr (Or.inr (Or.inr (Or.inr (Or.inl h14))))))))))))))
  by_cases h15 : x = 15
  · exact Or.inr (Or.inr (Or.inr (Or.inr (Or.inr (Or.inr (Or.inr (Or.inr (Or.inr (Or.inr (Or.inr (Or.inr (Or.inr (Or.inr (Or.inr (Or.inl h15)))))))))))))))
  by_cases h16 : x = 16
  · exact Or.inr (Or.inr (Or.inr (Or.inr (Or.inr (Or.inr (Or.inr (Or.inr (Or.inr (Or.inr (Or.inr (Or.inr (Or.inr (Or.inr (Or.inr (Or.inr (Or.inl h16))))))))))))))))
  by_cases h17 : x = 17
  · exact Or.inr (Or.inr (Or.inr (Or.inr (Or.inr (Or.inr (Or.inr (Or.inr (Or.inr (Or.inr (Or.inr (Or.inr (Or.inr (Or.inr (Or.inr (Or.inr (Or.inr (Or.inl h17)))))))))))))))))
  by_cases h18 : x = 18
  · exact Or.inr (Or.inr (Or.inr (Or.inr (Or.inr (Or.inr (Or.inr (Or.inr (Or.inr (Or.inr (Or.inr (Or.inr (Or.inr (Or.inr (Or.inr (Or.inr (Or.inr (Or.inr (Or.inl h18))))))))))))))))))
  by_cases h19 : x = 19
  · exact Or.inr (Or.inr (Or.inr (Or.inr (Or.inr (Or.inr (Or.inr (Or.inr (Or.inr (Or.inr (Or.inr (Or.inr (Or.inr (Or.inr (Or.inr (Or.inr (Or.inr (Or.inr (Or.inr (Or.inl h19)))))))))))))))))))
  by_cases h20 : x = 20
  · exact Or.inr (Or.inr (Or.inr (Or.inr (Or.inr (Or.inr (Or.inr (Or.inr (Or.inr (Or.inr (Or.inr (Or.inr (Or.inr (Or.inr (Or.inr (Or.inr (Or.inr (Or.inr (Or.inr (Or.inr (Or.inl h20))))))))))))))))))))
  by_cases h21 : x = 21
  · exact Or.inr (Or.inr (Or.inr (Or.inr (Or.inr (Or.inr (Or.inr (Or.inr (Or.inr (Or.inr (Or.inr (Or.inr (Or.inr (Or.inr (Or.inr (Or.inr (Or.inr (Or.inr (Or.inr (Or.inr (Or.inr (Or.inl h21)))))))))))))))))))))
  by_cases h22 : x = 22
  · exact Or.inr (Or.inr (Or.inr (Or.inr (Or.inr (Or.inr (Or.inr (Or.inr (Or.inr (Or.inr (Or.inr (Or.inr (Or.inr (Or.inr (Or.inr (Or.inr (Or.inr (Or.inr (Or.inr (Or.inr (Or.inr (Or.inr (Or.inl h22))))))))))))))))))))))
  by_cases h23 : x = 23
  · exact Or.inr (Or.inr (Or.inr (Or.inr (Or.inr (Or.inr (Or.inr (Or.inr (Or.inr (Or.inr (Or.inr (Or.inr (Or.inr (Or.inr (Or.inr (Or.inr (Or.inr (Or.inr (Or.inr (Or.inr (Or.inr (Or.inr (Or.inr (Or.inl h23)))))))))))))))))))))))
  by_cases h24 : x = 24
  · exact Or.inr (Or.inr (Or.inr (Or.inr (Or.inr (Or.inr (Or.inr (Or.inr (Or.inr (Or.inr (Or.inr (Or.inr (Or.inr (Or.inr (Or.inr (Or.inr (Or.inr (Or.inr (Or.inr (Or.inr (Or.inr (Or.inr (Or.inr (Or.inr (Or.inl h24))))))))))))))))))))))))
  by_cases h25 : x = 25
  · exact Or.inr (Or.inr (Or.inr (Or.inr (Or.inr (Or.inr (Or.inr (Or.inr (Or.inr (Or.inr (Or.inr (Or.inr (Or.inr (Or.inr (Or.inr (Or.inr (Or.inr (Or.inr (Or.inr (Or.inr (Or.inr (Or.inr (Or.inr (Or.inr (Or.inr (Or.inl h25)))))))))))))))))))))))))
  by_cases h26 : x = 26
  · exact Or.inr (Or.inr (Or.inr (Or.inr (Or.inr (Or.inr (Or.inr (Or.inr (Or.inr (Or.inr (Or.inr (Or.inr (Or.inr (Or.inr (Or.inr (Or.inr (Or.inr (Or.inr (Or.inr (Or.inr (Or.inr (Or.inr (Or.inr (Or.inr (Or.inr (Or.inr (Or.inl h26))))))))))))))))))))))))))
  by_cases h27 : x = 27
  · exact Or.inr (Or.inr (Or.inr (Or.inr (Or.inr (Or.inr (Or.inr (Or.inr (Or.inr (Or.inr (Or.inr (Or.inr (Or.inr (Or.inr (Or.inr (Or.inr (Or.inr (Or.inr (Or.inr (Or.inr (Or.inr (Or.inr (Or.inr (Or.inr (Or.inr (Or.inr (Or.inr (Or.inl h27)))))))))))))))))))))))))))
  by_cases h28 : x = 28
  · exact Or.inr (Or.inr (Or.inr (Or.inr (Or.inr (Or.inr (Or.inr (Or.inr (Or.inr (Or.inr (Or.inr (Or.inr (Or.inr (Or.inr (Or.inr (Or.inr (Or.inr (Or.inr (Or.inr (Or.inr (Or.inr (Or.inr (Or.inr (Or.inr (Or.inr (Or.inr (Or.inr (Or.inr (Or.inl h28))))))))))))))))))))))))))))
  by_cases h29 : x = 29
  · exact Or.inr (Or.inr (Or.inr (Or.inr (Or.inr (Or.inr (Or.inr (Or.inr (Or.inr (Or.inr (Or.inr (Or.inr (Or.inr (Or.inr (Or.inr (Or.inr (Or.inr (Or.inr (Or.inr (Or.inr (Or.inr (Or.inr (Or.inr (Or.inr (Or.inr (Or.inr (Or.inr (Or.inr (Or.inr (Or.inl h29)))))))))))))))))))))))))))))
  refine Or.inr (Or.inr (Or.inr (Or.inr (Or.inr (Or.inr (Or.inr (Or.inr (Or.inr (Or.inr (Or.inr (Or.inr (Or.inr (Or.inr (Or.inr (Or.inr (Or.inr (Or.inr (Or.inr (Or.inr (Or.inr (Or.inr (Or.inr (Or.inr (Or.inr (Or.inr (Or.inr (Or.inr (Or.inr (Or.inr (?_))))))))))))))))))))))))))))))
  have n0 := z_ne rfl (zk (x := 0) 0 rfl) h0
  have n1 := z_ne rfl (zk (x := 1) 1 rfl) h1
  have n2 := z_ne rfl (zk (x := 2) 2 rfl) h2
  have n3 := z_ne rfl (zk (x := 3) 3 rfl) h3
  have n4 := z_ne rfl (zk (x := 4) 4 rfl) h4
  have n5 := z_ne rfl (zk (x := 5) 5 rfl) h5
  have n6 := z_ne rfl (zk (x := 6) 6 rfl) h6
  have n7 := z_ne rfl (zk (x := 7) 7 rfl) h7
  have n8 := z_ne rfl (zk (x := 8) 8 rfl) h8
  have n9 := z_ne rfl (zk (x := 9) 9 rfl) h9
  have n10 := z_ne rfl (zk (x := 10) 10 rfl) h10
  have n11 := z_ne rfl (zk (x := 11) 11 rfl) h11
  have n12 := z_ne rfl (zk (x := 12) 12 rfl) h12
  have n13 := z_ne rfl (zk (x := 13) 13 rfl) h13
  have n14 := z_ne rfl (zk (x := 14) 14 rfl) h14
  have n15 := z_ne rfl (zk (x := 15) 15 rfl) h15
  have n16 := z_ne rfl (zk (x := 16) 16 rfl) h16
  have n17 := z_ne rfl (zk (x := 17) 17 rfl) h17
  have n18 := z_ne rfl (zk (x := 18) 18 rfl) h18
  have n19 := z_ne rfl (zk (x := 19) 19 rfl) h19
  have n20 := z_ne rfl (zk (x := 20) 20 rfl) h20
  have n21 := z_ne rfl (zk (x := 21) 21 rfl) h21
  have n22 := z_ne rfl (zk (x := 22) 22 rfl) h22
  have n23 := z_ne rfl (zk (x := 23) 23 rfl) h23
  have n24 := z_ne rfl (zk (x := 24) 24 rfl) h24
  have n25 := z_ne rfl (zk (x := 25) 25 rfl) h25
  have n26 := z_ne rfl (zk (x := 26) 26 rfl) h26
  have n27 := z_ne rfl (zk (x := 27) 27 rfl) h27
  have n28 := z_ne rfl (zk (x := 28) 28 rfl) h28
  have n29 := z_ne rfl (zk (x := 29) 29 rfl) h29
  omega
