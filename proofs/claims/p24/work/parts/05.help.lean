/-! WORDS FOR THIS CLAIM: what stays as it is in the whole run ('am_ok'), a method's start ('pr_') and the world behind it ('po_') -/
/-- a String constant whose letters nobody asks for: its object, its bytes -/
def st_ok (a v n : Nat) (A : Nat → Prop) (U : State) (H : Heap) : Prop :=
  va_O "java/lang/String" a A U H ∧ va_OF "java/lang/String" "coder" "B" (.int 0) a A U H ∧ va_OF "java/lang/String" "value" "[B" (.ref v) a A U H ∧ ∃ f : Nat → Int32, va_T .byte v n (fun j => .int (f j)) A U H
theorem st_ok.moved {a v n : Nat} {A : Nat → Prop} {u U : State} {H : Heap} (hvm : u.vm.Alike U.vm) (h : st_ok a v n A u H) : st_ok a v n A U H := by
  obtain ⟨h1, h2, h3, f, h4⟩ := h
  exact ⟨h1.moved hvm, h2.moved hvm, h3.moved hvm, f, h4.moved hvm⟩
theorem st_ok.kept {a v n : Nat} {A : Nat → Prop} {U : State} {H H1 : Heap} (h : st_ok a v n A U H) (hq : ∀ a : Nat, a < H.size → ¬ A a → H1[a]? = H[a]?) : st_ok a v n A U H1 := by
  obtain ⟨h1, h2, h3, f, h4⟩ := h
  exact ⟨h1.kept hq, h2.kept hq, h3.kept hq, f, h4.kept hq⟩
theorem st_ok.narrow {a v n : Nat} {A B : Nat → Prop} {U : State} {H : Heap} (h : st_ok a v n A U H) (hAB : ∀ q, B q → A q) : st_ok a v n B U H := by
  obtain ⟨h1, h2, h3, f, h4⟩ := h
  exact ⟨h1.narrow hAB, h2.narrow hAB, h3.narrow hAB, f, h4.narrow hAB⟩
/-- the String constants: class, place in its pool, text, length -/
def sK : List (String × Nat × String × Nat) := [(RX10, 70, "9-c", 3), (RX10, 72, "v>s|v=s", 7), (RX10, 74, "(1-t)*(1-a)", 11), (RX10, 76, "l", 1), (RX10, 62, "cwldspkn", 8), (RX10, 64, "svph", 4), (RX10, 66, "trax", 4), (RX10, 68, "lcsof", 5), (RX12, 71, "9-cv>s|v=s(1-t)*(1-a)l", 22), (RX12, 180, "cwldspkn", 8), (RX12, 182, "svph", 4), (RX12, 184, "trax", 4), (RX12, 186, "lcsof", 5), (RX11, 173, "no such hand", 12), (RX11, 199, "no such what", 12), (RX11, 229, "no such hand or piece", 21), (RX11, 273, "no such piece", 13), (RX11, 278, "no such hand or day", 19), (RX11, 338, "no such hand or minutes", 23), (RX11, 340, "no such number", 14)]
def am_nest (U : State) : Prop := va_Nw (.methodLinkNest RX11 9 yX1_init RX11) U ∧ va_Nw (.methodLinkNest RX11 117 yX6_init RX11) U ∧ va_Nw (.methodLinkNest RX3 136 yX11_minutesFor RX11) U ∧ va_Nw (.methodLinkNest RX7 107 yX11_minutesFor RX11) U ∧ va_Nw (.methodLinkNest RX10 30 yX8_init RX11) U
def am_over (U : State) : Prop := va_AO RX0 U ∧ va_AO RX2 U ∧ va_AO RX4 U ∧ va_AO RX6 U ∧ va_AO RX9 U
def frm : Nat → Int32 := fun j => ([0, 3, 10, 21] : List Int32).getD j 0
def fsz : Nat → Int32 := fun j => ([3, 7, 11, 1] : List Int32).getD j 0
def am_first (A : Nat → Prop) (U : State) (H : Heap) : Prop := ∃ f0 f1 : Nat, va_Z RX12 "FIRST_FROM" "[I" (.ref f0) A U H ∧ va_T .int f0 4 (fun j => .int (frm j)) A U H ∧ va_Z RX12 "FIRST_SIZE" "[I" (.ref f1) A U H ∧ va_T .int f1 4 (fun j => .int (fsz j)) A U H
theorem am_first.moved {A : Nat → Prop} {u U : State} {H : Heap} (hvm : u.vm.Alike U.vm) (h : am_first A u H) : am_first A U H := by
  obtain ⟨f0, f1, h1, h2, h3, h4⟩ := h
  exact ⟨f0, f1, h1.moved hvm, h2.moved hvm, h3.moved hvm, h4.moved hvm⟩
theorem am_first.kept {A : Nat → Prop} {U : State} {H H1 : Heap} (h : am_first A U H) (hq : ∀ a : Nat, a < H.size → ¬ A a → H1[a]? = H[a]?) : am_first A U H1 := by
  obtain ⟨f0, f1, h1, h2, h3, h4⟩ := h
  exact ⟨f0, f1, h1.kept hq, h2.kept hq, h3.kept hq, h4.kept hq⟩
theorem am_first.narrow {A B : Nat → Prop} {U : State} {H : Heap} (h : am_first A U H) (hAB : ∀ q, B q → A q) : am_first B U H := by
  obtain ⟨f0, f1, h1, h2, h3, h4⟩ := h
  exact ⟨f0, f1, h1.narrow hAB, h2.narrow hAB, h3.narrow hAB, h4.narrow hAB⟩
def am_ok (ad av : Nat → Nat) (A : Nat → Prop) (U : State) (H : Heap) : Prop :=
  am_nest U ∧ am_over U ∧ (∀ (i : Nat) (q : String × Nat × String × Nat), sK[i]? = some q → vk_R q.1 q.2.1 q.2.2.1 (ad i) U ∧ (i < 13 → st_ok (ad i) (av i) q.2.2.2 A U H)) ∧ va_Z "java/lang/String" "COMPACT_STRINGS" "Z" (.int 1) A U H ∧
  vx_Zq Bundle.tN "UNASSIGNED_STACK" Bundle.steD A U H ∧ vx_Zq Bundle.tN "SUPPRESSED_SENTINEL" Bundle.listD A U H ∧ ux_ride U ∧ va_Nw (.castable "[I" "java/lang/Cloneable") U ∧ va_Zq "jdk/internal/util/Preconditions" "SIOOBE_FORMATTER" "Ljava/util/function/BiFunction;" A U H ∧ am_first A U H
theorem am_ok.same {ad av : Nat → Nat} {A : Nat → Prop} {u U : State} {H : Heap} (hv : u.vm = U.vm) (h : am_ok ad av A u H) : am_ok ad av A U H := by
  obtain ⟨⟨n1, n2, n3, n4, n5⟩, ⟨o1, o2, o3, o4, o5⟩, hs, hz, hu, hn, hc, hq, hw, hfi⟩ := h
  have hal : u.vm.Alike U.vm := hv ▸ Vm.Alike.refl u.vm
  exact ⟨⟨n1.same rfl hv, n2.same rfl hv, n3.same rfl hv, n4.same rfl hv, n5.same rfl hv⟩, ⟨o1.moved hal, o2.moved hal, o3.moved hal, o4.moved hal, o5.moved hal⟩, fun i q hi => ⟨(hs i q hi).1.same hv.symm, fun h9 => ((hs i q hi).2 h9).moved hal⟩, hz.moved hal, hu.moved hal, hn.moved hal, ⟨hc.1.same rfl hv, hc.2.1.same rfl hv, hc.2.2.1.same rfl hv, hc.2.2.2.same rfl hv⟩, hq.same rfl hv, hw.moved hal, hfi.moved hal⟩
theorem am_ok.warm {ad av : Nat → Nat} {A : Nat → Prop} {s U : State} {H : Heap} (hW : s.WarmedH U.vm) (h : am_ok ad av A s H) : am_ok ad av A U H := by
  obtain ⟨⟨n1, n2, n3, n4, n5⟩, ⟨o1, o2, o3, o4, o5⟩, hs, hz, hu, hn, hc, hq, hw, hfi⟩ := h
  have hal : s.vm.Alike U.vm := hW.alike
  exact ⟨⟨n1.warmM hW, n2.warmM hW, n3.warmM hW, n4.warmM hW, n5.warmM hW⟩, ⟨o1.moved hal, o2.moved hal, o3.moved hal, o4.moved hal, o5.moved hal⟩, fun i q hi => ⟨(hs i q hi).1.warm hW, fun h9 => ((hs i q hi).2 h9).moved hal⟩, hz.moved hal, hu.moved hal, hn.moved hal, ⟨hc.1.warmD hW, hc.2.1.warmD hW, hc.2.2.1.warmD hW, hc.2.2.2.warmC hW⟩, hq.warmC hW, hw.moved hal, hfi.moved hal⟩
theorem am_ok.kept {ad av : Nat → Nat} {A : Nat → Prop} {U : State} {H H1 : Heap} (h : am_ok ad av A U H) (hq : ∀ a : Nat, a < H.size → ¬ A a → H1[a]? = H[a]?) : am_ok ad av A U H1 := by
  obtain ⟨hn, ho, hs, hz, hu, hn', hc, hc2, hw, hfi⟩ := h
  exact ⟨hn, ho, fun i q hi => ⟨(hs i q hi).1, fun h9 => ((hs i q hi).2 h9).kept hq⟩, hz.kept hq, hu.kept hq, hn'.kept hq, hc, hc2, hw.kept hq, hfi.kept hq⟩
theorem am_ok.narrow {ad av : Nat → Nat} {A B : Nat → Prop} {U : State} {H : Heap} (h : am_ok ad av A U H) (hAB : ∀ q, B q → A q) : am_ok ad av B U H := by
  obtain ⟨hn, ho, hs, hz, hu, hn', hc, hc2, hw, hfi⟩ := h
  exact ⟨hn, ho, fun i q hi => ⟨(hs i q hi).1, fun h9 => ((hs i q hi).2 h9).narrow hAB⟩, hz.narrow hAB, hu.narrow hAB, hn'.narrow hAB, hc, hc2, hw.narrow hAB, hfi.narrow hAB⟩
/-- a method's start: its arguments, the heap's size, the cells that it is given -/
def pr_ (ad av : Nat → Nat) (D : va_G) (sz : Nat) (vs : List Value) (ws : va_W) (tys : List (ClassId × FieldType)) : Array Value → State → Prop :=
  va_Pc vs (fun U => U.heap.size = sz ∧ va_P D vwCl ws U.heap ∧ va_K D vwCl tys U ∧ va_D (fun _ => True) ws ∧ am_ok ad av (va_A ws sz) U U.heap)
theorem pr_blind {ad av : Nat → Nat} {D : va_G} {sz : Nat} {vs : List Value} {ws : va_W} {tys : List (ClassId × FieldType)} : FrameBlind (pr_ ad av D sz vs ws tys) := by
  intro a U g mk q
  obtain ⟨q0, q1, qP, qK, qD, qM⟩ := q
  exact ⟨q0, q1, qP, va_K.moved (u := U) (U := U.calling g mk a) (Vm.Alike.refl U.vm) qK, qD, am_ok.same (u := U) (U := U.calling g mk a) rfl qM⟩
theorem pr_use {ad av : Nat → Nat} {D : va_G} {vs : List Value} {wc : va_W} {tc : List (ClassId × FieldType)} {A : Nat → Prop} {s : State} {H : Heap} {locs : List Loc} (hP : va_P D vwCl wc H) (hK : va_K D vwCl tc s) (hD : va_D A wc) (hF : ∀ q, va_A wc H.size q → A q) (hS : va_S A s.heap H locs) (hM : am_ok ad av A s s.heap) :
    ∀ U : State, U.heap = H → s.WarmedH U.vm → pr_ ad av D H.size vs wc tc vs.toArray U := by
  intro U hU hW
  refine ⟨rfl, by rw [hU], by rw [hU]; exact hP, va_K.moved hW.alike hK, hD.weaken (fun _ _ _ _ => trivial), ?_⟩
  rw [hU]
  exact ((hM.kept hS.2.1).narrow hF).warm hW
/-- the world behind a method -/
def po_ (D : va_G) (A : Nat → Prop) (ws : va_W) (tys : List (ClassId × FieldType)) (t : State) : Prop := va_P D vwCl ws t.heap ∧ va_K D vwCl tys t ∧ va_D A ws
section HLP
variable {p : Program} {l : Launch} {e : Env} {R : Room} {s : State} {m : MethodId} {args : Array Value} {below : List Frame} {meth : Method} {c : Code} {H : Heap} {locs : List Loc} {cells slots : Nat} {Q : State → Prop} {pc : Nat} {ls : Array Slot} {rest : List Value}
theorem lq_top {x v : Int32} (h : x = v) (k : W p l e R s m args below meth c H locs cells slots Q (F0 m pc ls (.int v :: rest))) : W p l e R s m args below meth c H locs cells slots Q (F0 m pc ls (.int x :: rest)) := by
  rw [h]; exact k
end HLP
theorem rg_no1 {v lo hi : Int32} (h : v < lo) : ¬ (lo ≤ v ∧ v ≤ hi) := fun z => Int32.not_lt.mpr z.1 h
theorem rg_no2 {v lo hi : Int32} (h : hi < v) : ¬ (lo ≤ v ∧ v ≤ hi) := fun z => Int32.not_lt.mpr z.2 h
def sL (i : Nat) : Nat := match sK[i]? with
  | some q => q.2.2.2
  | none => 0
theorem sL_le (i : Nat) : sL i ≤ 23 := by
  have hall : ∀ q ∈ sK, q.2.2.2 ≤ 23 := by decide +kernel
  unfold sL
  cases h : sK[i]? with
  | none => exact Nat.zero_le _
  | some q => exact hall q (List.mem_of_getElem? h)
theorem st_at {ad av : Nat → Nat} {A : Nat → Prop} {U : State} {H : Heap} (h : am_ok ad av A U H) (i : Nat) (hi : i < 13) : st_ok (ad i) (av i) (sL i) A U H := by
  obtain ⟨q, hq⟩ : ∃ q, sK[i]? = some q := ⟨_, List.getElem?_eq_getElem (show i < sK.length from Nat.lt_trans hi (by decide))⟩
  have e : sL i = q.2.2.2 := by unfold sL; rw [hq]
  rw [e]
  exact (h.2.2.1 i q hq).2 hi
theorem st_recv {a v n : Nat} {A : Nat → Prop} {s : State} {H : Heap} {locs : List Loc} (h : st_ok a v n A s s.heap) (hS : va_S A s.heap H locs) : ∃ cell : Cell, H[a]? = some cell ∧ cell.vm.isStatics = false ∧ s.vm.findClass "java/lang/String" = some cell.cls := by
  obtain ⟨cell, h1, h2, h3, -⟩ := h.1.kept hS.2.1
  exact ⟨cell, h1, h2, h3⟩
theorem q_le {x y : Int32} (a b : Nat) (h : x ≤ y) (hx : x = nI a) (hy : y = nI b) (ha : a < 2 ^ 31) (hb : b < 2 ^ 31) : a ≤ b := by
  subst hx; subst hy; exact (nI_leI ha hb).mp h
theorem q_nle {x y : Int32} (a b : Nat) (h : ¬ x ≤ y) (hx : x = nI a) (hy : y = nI b) (ha : a < 2 ^ 31) (hb : b < 2 ^ 31) : b < a := by
  subst hx; subst hy
  rcases Nat.lt_or_ge b a with q | q
  · exact q
  · exact absurd ((nI_leI ha hb).mpr q) h
theorem q_lt {x y : Int32} (a b : Nat) (h : x < y) (hx : x = nI a) (hy : y = nI b) (ha : a < 2 ^ 31) (hb : b < 2 ^ 31) : a < b := by
  subst hx; subst hy; exact (nI_ltI ha hb).mp h
theorem q_nlt {x y : Int32} (a b : Nat) (h : ¬ x < y) (hx : x = nI a) (hy : y = nI b) (ha : a < 2 ^ 31) (hb : b < 2 ^ 31) : b ≤ a := by
  subst hx; subst hy
  rcases Nat.lt_or_ge a b with q | q
  · exact absurd ((nI_ltI ha hb).mpr q) h
  · exact q
theorem q_eq {x y : Int32} (a b : Nat) (h : x = y) (hx : x = nI a) (hy : y = nI b) (ha : a < 2 ^ 31) (hb : b < 2 ^ 31) : a = b := by
  subst hx; subst hy; exact (nI_eq ha hb).mp h
theorem q_ne {x y : Int32} (a b : Nat) (h : ¬ x = y) (hx : x = nI a) (hy : y = nI b) (ha : a < 2 ^ 31) (hb : b < 2 ^ 31) : a ≠ b := by
  subst hx; subst hy; exact fun q => h (by rw [q])
theorem i_le_refl (x : Int32) : x ≤ x := Int32.le_refl x
theorem i_gt_not {a n b : Int32} (h : b < n) (hab : a ≤ b) : ¬ n ≤ a := fun z => Int32.not_lt.mpr (Int32.le_trans z hab) h
theorem i_back (n k : Int32) : k + (n - k) = n := by rw [Int32.add_comm, Int32.sub_add_cancel]
theorem i_anti {a b : Int32} (h1 : a ≤ b) (h2 : b ≤ a) : a = b := Int32.le_antisymm h1 h2
theorem q_min {x y : Int32} (a b : Nat) (hx : x = nI a) (hy : y = nI b) (h : b ≤ a) (ha : a < 2 ^ 31) (hb : b < 2 ^ 31) : (if y < x then y else x) = y := by
  subst hx; subst hy
  rcases Nat.lt_or_eq_of_le h with q | q
  · exact if_pos ((nI_ltI hb ha).mpr q)
  · subst q; exact ite_self _
theorem q_min2 {x y : Int32} (a b : Nat) (hx : x = nI a) (hy : y = nI b) (h : a ≤ b) (ha : a < 2 ^ 31) (hb : b < 2 ^ 31) : (if y < x then y else x) = x := by
  subst hx; subst hy
  exact if_neg (nI_nlt h hb)
theorem gi_0 {big ws : List Cond} (h2 : ∀ w ∈ ws, w ∈ big) (h3 : ∀ w ∈ ws, goodWord w = true) : GoodIn big ws := fun w h => ⟨h2 w h, good_of_word (h3 w h)⟩
theorem gi_3 {big ws : List Cond} {own : String} {idx : Nat} {y : MethodName} (a1 : Cond.methodLink own idx y ∈ big) (a2 : Cond.static y ∈ big) (a3 : Cond.initialized y.cls ∈ big) (h2 : ∀ w ∈ ws, w ∈ big) (h3 : ∀ w ∈ ws, goodWord w = true) : GoodIn big (va_wsS own idx y ws) := by
  intro w h
  unfold va_wsS at h
  simp only [List.cons_append, List.nil_append, List.mem_cons] at h
  rcases h with rfl | rfl | rfl | h
  · exact ⟨a1, good_of_word rfl⟩
  · exact ⟨a2, good_of_word rfl⟩
  · exact ⟨a3, good_of_word rfl⟩
  · exact ⟨h2 w h, good_of_word (h3 w h)⟩
theorem gi_4 {big ws : List Cond} {own C : String} {idx : Nat} {y : MethodName} (a1 : Cond.methodLink own idx y ∈ big) (a2 : Cond.instanceMethod y ∈ big) (a3 : Cond.selects C y y ∈ big) (a4 : Cond.initialized C ∈ big) (h2 : ∀ w ∈ ws, w ∈ big) (h3 : ∀ w ∈ ws, goodWord w = true) : GoodIn big (wsV own idx C y ws) := by
  intro w h
  unfold wsV at h
  simp only [List.cons_append, List.nil_append, List.mem_cons] at h
  rcases h with rfl | rfl | rfl | rfl | h
  · exact ⟨a1, good_of_word rfl⟩
  · exact ⟨a2, good_of_word rfl⟩
  · exact ⟨a3, good_of_word rfl⟩
  · exact ⟨a4, good_of_word rfl⟩
  · exact ⟨h2 w h, good_of_word (h3 w h)⟩
