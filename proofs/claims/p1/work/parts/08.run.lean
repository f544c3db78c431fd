def wo_c_awayMask0 : List Cond := [.fieldLink RX1 43 "TypingPool$Book" "awayCount" "I"]
def wm_c_awayMask0 : List Cond := .code yX1_awayMask cX1_awayMask 5 (some .int) :: (wo_c_awayMask0 ++ (wsX10 ++ ([] : List Cond)))
theorem gd_c_awayMask0 : ∀ w ∈ wm_c_awayMask0, goodWord w = true := gd_c rfl (gd_a (by decide) (gd_a gd_wsX10 gd_nil))
set_option maxRecDepth 20000 in
theorem im_c_awayMask0 : ∀ w ∈ wm_c_awayMask0, w ∈ lw_tbl := im_c (in_r [.code yX1_awayMask cX1_awayMask 5 (some .int)] [758] (by decide +kernel)) (in_app (in_r wo_c_awayMask0 [136] (by decide +kernel)) (in_app im_wsX10 im_nil))
set_option maxHeartbeats 4000000 in
set_option maxRecDepth 100000 in
theorem c_awayMask0 (l : Launch) (dC : Nat → ClassId) (dI : Nat → Nat → Nat) (ad av : Nat → Nat) (sz : Nat) (h0 : Nat) (b0 : Nat) (b1 : Nat) (b2 : Nat) (b3 : Nat) (p0 : Int32) : Met l yX1_awayMask wm_c_awayMask0 ({ frames := 0, cells := 0, slots := 0, locals := 0 }) (pr_ ad av (dC, dI) sz [.ref h0, .int p0] [(h0, .inr (1, [.ref b0, .int 0, .ref b1, .int 0, .ref b2, .int 0, .ref b3, .int 0]))] []) (va_Qi (fun (r u : Int32) => u = r) (fun (r : Int32) (t : State) => (r = 0 ∧ po_ (dC, dI) (va_A [(h0, .inr (1, [.ref b0, .int 0, .ref b1, .int 0, .ref b2, .int 0, .ref b3, .int 0]))] sz) [(h0, .inr (1, [.ref b0, .int 0, .ref b1, .int 0, .ref b2, .int 0, .ref b3, .int 0]))] [] t)) (va_A [(h0, .inr (1, [.ref b0, .int 0, .ref b1, .int 0, .ref b2, .int 0, .ref b3, .int 0]))] sz)) 0 0 (va_A [(h0, .inr (1, [.ref b0, .int 0, .ref b1, .int 0, .ref b2, .int 0, .ref b3, .int 0]))] sz) := by
  refine Met.ofW (cc := cX1_awayMask) (maxL := 5) (ret := (some .int)) (by decide) rfl ?_
  intro p e s m args below meth c s₁ B hml hv
  obtain ⟨rfl, hsz, hP, hK, hD0, hM⟩ := hv
  have hx := B.exec
  have hb := B.bytes
  have hr := B.returns
  have hts := atoms_spec (ws := wm_c_awayMask0) B.pre
  have hown : s.vm.findClass RX1 = some m.cls := findClass_of_methodNamed B.named
  have hlocks := B.notSynchronized
  subst hsz
  have hD := hD0.self (sz := s.heap.size)
  generalize hAe : va_A [(h0, .inr (1, [.ref b0, .int 0, .ref b1, .int 0, .ref b2, .int 0, .ref b3, .int 0]))] s.heap.size = A at hD hM ⊢
  have hA : ∀ q : Nat, s.heap.size ≤ q → A q := fun q h => by rw [← hAe]; exact Or.inr h
  have hS : va_S A s.heap s.heap [] := va_S.rf
  have hP : va_P (dC, dI) vwCl [(h0, .inr (1, [.ref b0, .int 0, .ref b1, .int 0, .ref b2, .int 0, .ref b3, .int 0]))] s.heap := hP
  have hl := lv_entry ([.ref h0, .int p0]) (n := 5) (Nat.le_of_ble_eq_true rfl)
  rw [lg_entry_eq]
  generalize (lg_sl ([.ref h0, .int p0]) ++ List.replicate (5 - (lg_sl ([.ref h0, .int p0])).length) Slot.unset).toArray = ls at hl ⊢
  have hl : lv_has ls 5 [(0, .ref h0), (1, .int p0)] := hl
  refine lv_iconst (v := 0) hx hb dX1_awayMask_0 (by decide) ?_
  refine lv_istore_n (lv' := [(2, .int 0), (0, .ref h0), (1, .int p0)]) hx hb dX1_awayMask_1 rfl hl (by decide) rfl (fun ls hl => ?_)
  refine lv_iconst (v := 0) hx hb dX1_awayMask_2 (by decide) ?_
  refine lv_istore_n (lv' := [(3, .int 0), (2, .int 0), (0, .ref h0), (1, .int p0)]) hx hb dX1_awayMask_3 rfl hl (by decide) rfl (fun ls hl => ?_)
  refine lv_iload_n hx hb dX1_awayMask_4 rfl (lv_at hl 0 rfl) ?_
  refine lv_aload_n hx hb dX1_awayMask_5 rfl (lv_at hl 2 rfl) ?_
  refine va_get (D := (dC, dI)) (ci := 1) (v := .int 0) (C := RX1) (T := TX1) (N := 8) hx hb hts (fun _ hh => (List.mem_cons_of_mem _ (List.mem_append_right _ (List.mem_append_left _ hh)))) hown hK hP 0 rfl rfl 7 (by decide) (hts (.fieldLink RX1 43 "TypingPool$Book" "awayCount" "I") (List.mem_cons_of_mem _ (List.mem_append_left _ (List.mem_of_getElem? (i := 0) rfl)))) (fun _ h9 => h9) rfl dX1_awayMask_6 ?_
  refine lv_icmp_ge (tgt := 54) hx hb dX1_awayMask_9 (by decide) (fun c_265 => ?_) (fun c_265 => absurd c_265 (fun z => z (by decide)))
  refine lv_iload_n hx hb dX1_awayMask_54 rfl (lv_at hl 1 rfl) ?_
  have hP9 := hP.sub (ws' := [(h0, .inr (1, [.ref b0, .int 0, .ref b1, .int 0, .ref b2, .int 0, .ref b3, .int 0]))]) [0] rfl
  have hD9 := hD.sub (ws' := [(h0, .inr (1, [.ref b0, .int 0, .ref b1, .int 0, .ref b2, .int 0, .ref b3, .int 0]))]) [0] (by decide) rfl
  have hK9 := hK.sub (tys' := []) [] rfl
  exact W.iret (v := 0) hx hb hr (fun t ht hW => ⟨⟨0, 0, rfl, rfl, ⟨rfl, by rw [ht]; exact hP9, va_K.moved hW.alike hK9, hD9⟩⟩, hS.F ht⟩) hS.2.2 dX1_awayMask_55
def wo_c_changeBehind0 : List Cond := [.fieldLink RX1 34 "TypingPool$Book" "pieceCount" "I", .fieldLink RX1 43 "TypingPool$Book" "awayCount" "I"]
def wm_c_changeBehind0 : List Cond := .code yX1_changeBehind cX1_changeBehind 5 (some .int) :: (wo_c_changeBehind0 ++ (wsX10 ++ ([] : List Cond)))
theorem gd_c_changeBehind0 : ∀ w ∈ wm_c_changeBehind0, goodWord w = true := gd_c rfl (gd_a (by decide) (gd_a gd_wsX10 gd_nil))
set_option maxRecDepth 20000 in
theorem im_c_changeBehind0 : ∀ w ∈ wm_c_changeBehind0, w ∈ lw_tbl := im_c (in_r [.code yX1_changeBehind cX1_changeBehind 5 (some .int)] [832] (by decide +kernel)) (in_app (in_r wo_c_changeBehind0 [131, 136] (by decide +kernel)) (in_app im_wsX10 im_nil))
set_option maxHeartbeats 4000000 in
set_option maxRecDepth 100000 in
theorem c_changeBehind0 (l : Launch) (dC : Nat → ClassId) (dI : Nat → Nat → Nat) (ad av : Nat → Nat) (sz : Nat) (h0 : Nat) (b0 : Nat) (b1 : Nat) (b2 : Nat) (b3 : Nat) (p0 : Int32) (p1 : Int32) : Met l yX1_changeBehind wm_c_changeBehind0 ({ frames := 0, cells := 0, slots := 0, locals := 0 }) (pr_ ad av (dC, dI) sz [.ref h0, .int p0, .int p1] [(h0, .inr (1, [.ref b0, .int 0, .ref b1, .int 0, .ref b2, .int 0, .ref b3, .int 0]))] []) (va_Qi (fun (r u : Int32) => u = r) (fun (r : Int32) (t : State) => (r = p1 ∧ po_ (dC, dI) (va_A [(h0, .inr (1, [.ref b0, .int 0, .ref b1, .int 0, .ref b2, .int 0, .ref b3, .int 0]))] sz) [(h0, .inr (1, [.ref b0, .int 0, .ref b1, .int 0, .ref b2, .int 0, .ref b3, .int 0]))] [] t)) (va_A [(h0, .inr (1, [.ref b0, .int 0, .ref b1, .int 0, .ref b2, .int 0, .ref b3, .int 0]))] sz)) 0 0 (va_A [(h0, .inr (1, [.ref b0, .int 0, .ref b1, .int 0, .ref b2, .int 0, .ref b3, .int 0]))] sz) := by
  refine Met.ofW (cc := cX1_changeBehind) (maxL := 5) (ret := (some .int)) (by decide) rfl ?_
  intro p e s m args below meth c s₁ B hml hv
  obtain ⟨rfl, hsz, hP, hK, hD0, hM⟩ := hv
  have hx := B.exec
  have hb := B.bytes
  have hr := B.returns
  have hts := atoms_spec (ws := wm_c_changeBehind0) B.pre
  have hown : s.vm.findClass RX1 = some m.cls := findClass_of_methodNamed B.named
  have hlocks := B.notSynchronized
  subst hsz
  have hD := hD0.self (sz := s.heap.size)
  generalize hAe : va_A [(h0, .inr (1, [.ref b0, .int 0, .ref b1, .int 0, .ref b2, .int 0, .ref b3, .int 0]))] s.heap.size = A at hD hM ⊢
  have hA : ∀ q : Nat, s.heap.size ≤ q → A q := fun q h => by rw [← hAe]; exact Or.inr h
  have hS : va_S A s.heap s.heap [] := va_S.rf
  have hP : va_P (dC, dI) vwCl [(h0, .inr (1, [.ref b0, .int 0, .ref b1, .int 0, .ref b2, .int 0, .ref b3, .int 0]))] s.heap := hP
  have hl := lv_entry ([.ref h0, .int p0, .int p1]) (n := 5) (Nat.le_of_ble_eq_true rfl)
  rw [lg_entry_eq]
  generalize (lg_sl ([.ref h0, .int p0, .int p1]) ++ List.replicate (5 - (lg_sl ([.ref h0, .int p0, .int p1])).length) Slot.unset).toArray = ls at hl ⊢
  have hl : lv_has ls 5 [(0, .ref h0), (1, .int p0), (2, .int p1)] := hl
  refine lv_iload_n hx hb dX1_changeBehind_0 rfl (lv_at hl 2 rfl) ?_
  refine lv_istore_n (lv' := [(3, .int p1), (0, .ref h0), (1, .int p0), (2, .int p1)]) hx hb dX1_changeBehind_1 rfl hl (by decide) rfl (fun ls hl => ?_)
  refine lv_iconst (v := 0) hx hb dX1_changeBehind_2 (by decide) ?_
  refine lv_istore (lv' := [(4, .int 0), (3, .int p1), (0, .ref h0), (1, .int p0), (2, .int p1)]) hx hb dX1_changeBehind_3 hl (by decide) rfl (fun ls hl => ?_)
  refine lv_iload hx hb dX1_changeBehind_5 (lv_at hl 0 rfl) ?_
  refine lv_aload_n hx hb dX1_changeBehind_7 rfl (lv_at hl 2 rfl) ?_
  refine va_get (D := (dC, dI)) (ci := 1) (v := .int 0) (C := RX1) (T := TX1) (N := 8) hx hb hts (fun _ hh => (List.mem_cons_of_mem _ (List.mem_append_right _ (List.mem_append_left _ hh)))) hown hK hP 0 rfl rfl 5 (by decide) (hts (.fieldLink RX1 34 "TypingPool$Book" "pieceCount" "I") (List.mem_cons_of_mem _ (List.mem_append_left _ (List.mem_of_getElem? (i := 0) rfl)))) (fun _ h9 => h9) rfl dX1_changeBehind_8 ?_
  refine lv_icmp_ge (tgt := 36) hx hb dX1_changeBehind_11 (by decide) (fun c_266 => ?_) (fun c_266 => absurd c_266 (fun z => z (by decide)))
  refine lv_iconst (v := 0) hx hb dX1_changeBehind_36 (by decide) ?_
  refine lv_istore (lv' := [(4, .int 0), (3, .int p1), (0, .ref h0), (1, .int p0), (2, .int p1)]) hx hb dX1_changeBehind_37 hl (by decide) rfl (fun ls hl => ?_)
  refine lv_iload hx hb dX1_changeBehind_39 (lv_at hl 0 rfl) ?_
  refine lv_aload_n hx hb dX1_changeBehind_41 rfl (lv_at hl 2 rfl) ?_
  refine va_get (D := (dC, dI)) (ci := 1) (v := .int 0) (C := RX1) (T := TX1) (N := 8) hx hb hts (fun _ hh => (List.mem_cons_of_mem _ (List.mem_append_right _ (List.mem_append_left _ hh)))) hown hK hP 0 rfl rfl 7 (by decide) (hts (.fieldLink RX1 43 "TypingPool$Book" "awayCount" "I") (List.mem_cons_of_mem _ (List.mem_append_left _ (List.mem_of_getElem? (i := 1) rfl)))) (fun _ h9 => h9) rfl dX1_changeBehind_42 ?_
  refine lv_icmp_ge (tgt := 86) hx hb dX1_changeBehind_45 (by decide) (fun c_267 => ?_) (fun c_267 => absurd c_267 (fun z => z (by decide)))
  refine lv_iload_n hx hb dX1_changeBehind_86 rfl (lv_at hl 1 rfl) ?_
  have hP9 := hP.sub (ws' := [(h0, .inr (1, [.ref b0, .int 0, .ref b1, .int 0, .ref b2, .int 0, .ref b3, .int 0]))]) [0] rfl
  have hD9 := hD.sub (ws' := [(h0, .inr (1, [.ref b0, .int 0, .ref b1, .int 0, .ref b2, .int 0, .ref b3, .int 0]))]) [0] (by decide) rfl
  have hK9 := hK.sub (tys' := []) [] rfl
  exact W.iret (v := p1) hx hb hr (fun t ht hW => ⟨⟨p1, p1, rfl, rfl, ⟨rfl, by rw [ht]; exact hP9, va_K.moved hW.alike hK9, hD9⟩⟩, hS.F ht⟩) hS.2.2 dX1_changeBehind_87
def wo_c_takeAll0 : List Cond := [.fieldLink RX3 43 "TypingPool$Floor" "book" "LTypingPool$Book;", .fieldLink RX3 75 "TypingPool$Book" "handCount" "I"]
def wm_c_takeAll0 : List Cond := .code yX3_takeAll cX3_takeAll 5 none :: (wo_c_takeAll0 ++ (wsX30 ++ (wsX10 ++ ([] : List Cond))))
theorem gd_c_takeAll0 : ∀ w ∈ wm_c_takeAll0, goodWord w = true := gd_c rfl (gd_a (by decide) (gd_a gd_wsX30 (gd_a gd_wsX10 gd_nil)))
set_option maxRecDepth 20000 in
theorem im_c_takeAll0 : ∀ w ∈ wm_c_takeAll0, w ∈ lw_tbl := im_c (in_r [.code yX3_takeAll cX3_takeAll 5 none] [762] (by decide +kernel)) (in_app (in_r wo_c_takeAll0 [426, 125] (by decide +kernel)) (in_app im_wsX30 (in_app im_wsX10 im_nil)))
set_option maxHeartbeats 4000000 in
set_option maxRecDepth 100000 in
theorem c_takeAll0 (l : Launch) (dC : Nat → ClassId) (dI : Nat → Nat → Nat) (ad av : Nat → Nat) (sz : Nat) (h0 : Nat) (bo : Nat) (c1 : Nat) (d0 : Nat) (d1 : Nat) (d2 : Nat) (d3 : Nat) (d4 : Nat) (d5 : Nat) (d6 : Nat) (d7 : Nat) (d8 : Nat) (b0 : Nat) (b1 : Nat) (b2 : Nat) (b3 : Nat) (nw : Int32) (p0 : Int32) : Met l yX3_takeAll wm_c_takeAll0 ({ frames := 0, cells := 0, slots := 0, locals := 0 }) (pr_ ad av (dC, dI) sz [.ref h0, .int p0, .null] [(h0, .inr (3, [.ref bo, .ref c1, .int nw, .ref d0, .ref d1, .ref d2, .ref d3, .ref d4, .ref d5, .ref d6, .ref d7, .ref d8])), (bo, .inr (1, [.ref b0, .int 0, .ref b1, .int 0, .ref b2, .int 0, .ref b3, .int 0]))] []) (va_Qv (fun (_ : Unit) => True) (fun (_ : Unit) (t : State) => (po_ (dC, dI) (va_A [(h0, .inr (3, [.ref bo, .ref c1, .int nw, .ref d0, .ref d1, .ref d2, .ref d3, .ref d4, .ref d5, .ref d6, .ref d7, .ref d8])), (bo, .inr (1, [.ref b0, .int 0, .ref b1, .int 0, .ref b2, .int 0, .ref b3, .int 0]))] sz) [(h0, .inr (3, [.ref bo, .ref c1, .int nw, .ref d0, .ref d1, .ref d2, .ref d3, .ref d4, .ref d5, .ref d6, .ref d7, .ref d8])), (bo, .inr (1, [.ref b0, .int 0, .ref b1, .int 0, .ref b2, .int 0, .ref b3, .int 0]))] [] t)) (va_A [(h0, .inr (3, [.ref bo, .ref c1, .int nw, .ref d0, .ref d1, .ref d2, .ref d3, .ref d4, .ref d5, .ref d6, .ref d7, .ref d8])), (bo, .inr (1, [.ref b0, .int 0, .ref b1, .int 0, .ref b2, .int 0, .ref b3, .int 0]))] sz)) 0 0 (va_A [(h0, .inr (3, [.ref bo, .ref c1, .int nw, .ref d0, .ref d1, .ref d2, .ref d3, .ref d4, .ref d5, .ref d6, .ref d7, .ref d8])), (bo, .inr (1, [.ref b0, .int 0, .ref b1, .int 0, .ref b2, .int 0, .ref b3, .int 0]))] sz) := by
  refine Met.ofW (cc := cX3_takeAll) (maxL := 5) (ret := none) (by decide) rfl ?_
  intro p e s m args below meth c s₁ B hml hv
  obtain ⟨rfl, hsz, hP, hK, hD0, hM⟩ := hv
  have hx := B.exec
  have hb := B.bytes
  have hr := B.returns
  have hts := atoms_spec (ws := wm_c_takeAll0) B.pre
  have hown : s.vm.findClass RX3 = some m.cls := findClass_of_methodNamed B.named
  have hlocks := B.notSynchronized
  subst hsz
  have hD := hD0.self (sz := s.heap.size)
  generalize hAe : va_A [(h0, .inr (3, [.ref bo, .ref c1, .int nw, .ref d0, .ref d1, .ref d2, .ref d3, .ref d4, .ref d5, .ref d6, .ref d7, .ref d8])), (bo, .inr (1, [.ref b0, .int 0, .ref b1, .int 0, .ref b2, .int 0, .ref b3, .int 0]))] s.heap.size = A at hD hM ⊢
  have hA : ∀ q : Nat, s.heap.size ≤ q → A q := fun q h => by rw [← hAe]; exact Or.inr h
  have hS : va_S A s.heap s.heap [] := va_S.rf
  have hP : va_P (dC, dI) vwCl [(h0, .inr (3, [.ref bo, .ref c1, .int nw, .ref d0, .ref d1, .ref d2, .ref d3, .ref d4, .ref d5, .ref d6, .ref d7, .ref d8])), (bo, .inr (1, [.ref b0, .int 0, .ref b1, .int 0, .ref b2, .int 0, .ref b3, .int 0]))] s.heap := hP
  have hl := lv_entry ([.ref h0, .int p0, .null]) (n := 5) (Nat.le_of_ble_eq_true rfl)
  rw [lg_entry_eq]
  generalize (lg_sl ([.ref h0, .int p0, .null]) ++ List.replicate (5 - (lg_sl ([.ref h0, .int p0, .null])).length) Slot.unset).toArray = ls at hl ⊢
  have hl : lv_has ls 5 [(0, .ref h0), (1, .int p0), (2, .null)] := hl
  refine lv_iconst (v := 0) hx hb dX3_takeAll_0 (by decide) ?_
  refine lv_istore_n (lv' := [(3, .int 0), (0, .ref h0), (1, .int p0), (2, .null)]) hx hb dX3_takeAll_1 rfl hl (by decide) rfl (fun ls hl => ?_)
  refine lv_iload_n hx hb dX3_takeAll_2 rfl (lv_at hl 0 rfl) ?_
  refine lv_aload_n hx hb dX3_takeAll_3 rfl (lv_at hl 1 rfl) ?_
  refine va_get (D := (dC, dI)) (ci := 3) (v := .ref bo) (C := RX3) (T := TX3) (N := 12) hx hb hts (fun _ hh => (List.mem_cons_of_mem _ (List.mem_append_right _ (List.mem_append_left _ hh)))) hown hK hP 0 rfl rfl 0 (by decide) (hts (.fieldLink RX3 43 "TypingPool$Floor" "book" "LTypingPool$Book;") (List.mem_cons_of_mem _ (List.mem_append_left _ (List.mem_of_getElem? (i := 0) rfl)))) (fun _ h9 => h9) rfl dX3_takeAll_4 ?_
  refine va_get (D := (dC, dI)) (ci := 1) (v := .int 0) (C := RX1) (T := TX1) (N := 8) hx hb hts (fun _ hh => (List.mem_cons_of_mem _ (List.mem_append_right _ (List.mem_append_right _ (List.mem_append_left _ hh))))) hown hK hP 1 rfl rfl 3 (by decide) (hts (.fieldLink RX3 75 "TypingPool$Book" "handCount" "I") (List.mem_cons_of_mem _ (List.mem_append_left _ (List.mem_of_getElem? (i := 1) rfl)))) (fun _ h9 => h9) rfl dX3_takeAll_7 ?_
  refine lv_icmp_ge (tgt := 58) hx hb dX3_takeAll_10 (by decide) (fun c_268 => ?_) (fun c_268 => absurd c_268 (fun z => z (by decide)))
  have hP9 := hP.sub (ws' := [(h0, .inr (3, [.ref bo, .ref c1, .int nw, .ref d0, .ref d1, .ref d2, .ref d3, .ref d4, .ref d5, .ref d6, .ref d7, .ref d8])), (bo, .inr (1, [.ref b0, .int 0, .ref b1, .int 0, .ref b2, .int 0, .ref b3, .int 0]))]) [0, 1] rfl
  have hD9 := hD.sub (ws' := [(h0, .inr (3, [.ref bo, .ref c1, .int nw, .ref d0, .ref d1, .ref d2, .ref d3, .ref d4, .ref d5, .ref d6, .ref d7, .ref d8])), (bo, .inr (1, [.ref b0, .int 0, .ref b1, .int 0, .ref b2, .int 0, .ref b3, .int 0]))]) [0, 1] (by decide) rfl
  have hK9 := hK.sub (tys' := []) [] rfl
  exact W.vret hx hb hr (fun t ht hW => ⟨⟨(), rfl, trivial, ⟨by rw [ht]; exact hP9, va_K.moved hW.alike hK9, hD9⟩⟩, hS.F ht⟩) hS.2.2 dX3_takeAll_58
def wo_c_workAll0 : List Cond := [.fieldLink RX3 43 "TypingPool$Floor" "book" "LTypingPool$Book;", .fieldLink RX3 75 "TypingPool$Book" "handCount" "I"]
def wm_c_workAll0 : List Cond := .code yX3_workAll cX3_workAll 5 none :: (wo_c_workAll0 ++ (wsX30 ++ (wsX10 ++ ([] : List Cond))))
theorem gd_c_workAll0 : ∀ w ∈ wm_c_workAll0, goodWord w = true := gd_c rfl (gd_a (by decide) (gd_a gd_wsX30 (gd_a gd_wsX10 gd_nil)))
set_option maxRecDepth 20000 in
theorem im_c_workAll0 : ∀ w ∈ wm_c_workAll0, w ∈ lw_tbl := im_c (in_r [.code yX3_workAll cX3_workAll 5 none] [850] (by decide +kernel)) (in_app (in_r wo_c_workAll0 [426, 125] (by decide +kernel)) (in_app im_wsX30 (in_app im_wsX10 im_nil)))
set_option maxHeartbeats 4000000 in
set_option maxRecDepth 100000 in
theorem c_workAll0 (l : Launch) (dC : Nat → ClassId) (dI : Nat → Nat → Nat) (ad av : Nat → Nat) (sz : Nat) (h0 : Nat) (bo : Nat) (c1 : Nat) (d0 : Nat) (d1 : Nat) (d2 : Nat) (d3 : Nat) (d4 : Nat) (d5 : Nat) (d6 : Nat) (d7 : Nat) (d8 : Nat) (b0 : Nat) (b1 : Nat) (b2 : Nat) (b3 : Nat) (nw : Int32) (p0 : Int32) (p1 : Int32) : Met l yX3_workAll wm_c_workAll0 ({ frames := 0, cells := 0, slots := 0, locals := 0 }) (pr_ ad av (dC, dI) sz [.ref h0, .int p0, .int p1] [(h0, .inr (3, [.ref bo, .ref c1, .int nw, .ref d0, .ref d1, .ref d2, .ref d3, .ref d4, .ref d5, .ref d6, .ref d7, .ref d8])), (bo, .inr (1, [.ref b0, .int 0, .ref b1, .int 0, .ref b2, .int 0, .ref b3, .int 0]))] []) (va_Qv (fun (_ : Unit) => True) (fun (_ : Unit) (t : State) => (po_ (dC, dI) (va_A [(h0, .inr (3, [.ref bo, .ref c1, .int nw, .ref d0, .ref d1, .ref d2, .ref d3, .ref d4, .ref d5, .ref d6, .ref d7, .ref d8])), (bo, .inr (1, [.ref b0, .int 0, .ref b1, .int 0, .ref b2, .int 0, .ref b3, .int 0]))] sz) [(h0, .inr (3, [.ref bo, .ref c1, .int nw, .ref d0, .ref d1, .ref d2, .ref d3, .ref d4, .ref d5, .ref d6, .ref d7, .ref d8])), (bo, .inr (1, [.ref b0, .int 0, .ref b1, .int 0, .ref b2, .int 0, .ref b3, .int 0]))] [] t)) (va_A [(h0, .inr (3, [.ref bo, .ref c1, .int nw, .ref d0, .ref d1, .ref d2, .ref d3, .ref d4, .ref d5, .ref d6, .ref d7, .ref d8])), (bo, .inr (1, [.ref b0, .int 0, .ref b1, .int 0, .ref b2, .int 0, .ref b3, .int 0]))] sz)) 0 0 (va_A [(h0, .inr (3, [.ref bo, .ref c1, .int nw, .ref d0, .ref d1, .ref d2, .ref d3, .ref d4, .ref d5, .ref d6, .ref d7, .ref d8])), (bo, .inr (1, [.ref b0, .int 0, .ref b1, .int 0, .ref b2, .int 0, .ref b3, .int 0]))] sz) := by
  refine Met.ofW (cc := cX3_workAll) (maxL := 5) (ret := none) (by decide) rfl ?_
  intro p e s m args below meth c s₁ B hml hv
  obtain ⟨rfl, hsz, hP, hK, hD0, hM⟩ := hv
  have hx := B.exec
  have hb := B.bytes
  have hr := B.returns
  have hts := atoms_spec (ws := wm_c_workAll0) B.pre
  have hown : s.vm.findClass RX3 = some m.cls := findClass_of_methodNamed B.named
  have hlocks := B.notSynchronized
  subst hsz
  have hD := hD0.self (sz := s.heap.size)
  generalize hAe : va_A [(h0, .inr (3, [.ref bo, .ref c1, .int nw, .ref d0, .ref d1, .ref d2, .ref d3, .ref d4, .ref d5, .ref d6, .ref d7, .ref d8])), (bo, .inr (1, [.ref b0, .int 0, .ref b1, .int 0, .ref b2, .int 0, .ref b3, .int 0]))] s.heap.size = A at hD hM ⊢
  have hA : ∀ q : Nat, s.heap.size ≤ q → A q := fun q h => by rw [← hAe]; exact Or.inr h
  have hS : va_S A s.heap s.heap [] := va_S.rf
  have hP : va_P (dC, dI) vwCl [(h0, .inr (3, [.ref bo, .ref c1, .int nw, .ref d0, .ref d1, .ref d2, .ref d3, .ref d4, .ref d5, .ref d6, .ref d7, .ref d8])), (bo, .inr (1, [.ref b0, .int 0, .ref b1, .int 0, .ref b2, .int 0, .ref b3, .int 0]))] s.heap := hP
  have hl := lv_entry ([.ref h0, .int p0, .int p1]) (n := 5) (Nat.le_of_ble_eq_true rfl)
  rw [lg_entry_eq]
  generalize (lg_sl ([.ref h0, .int p0, .int p1]) ++ List.replicate (5 - (lg_sl ([.ref h0, .int p0, .int p1])).length) Slot.unset).toArray = ls at hl ⊢
  have hl : lv_has ls 5 [(0, .ref h0), (1, .int p0), (2, .int p1)] := hl
  refine lv_iconst (v := 0) hx hb dX3_workAll_0 (by decide) ?_
  refine lv_istore_n (lv' := [(3, .int 0), (0, .ref h0), (1, .int p0), (2, .int p1)]) hx hb dX3_workAll_1 rfl hl (by decide) rfl (fun ls hl => ?_)
  refine lv_iload_n hx hb dX3_workAll_2 rfl (lv_at hl 0 rfl) ?_
  refine lv_aload_n hx hb dX3_workAll_3 rfl (lv_at hl 1 rfl) ?_
  refine va_get (D := (dC, dI)) (ci := 3) (v := .ref bo) (C := RX3) (T := TX3) (N := 12) hx hb hts (fun _ hh => (List.mem_cons_of_mem _ (List.mem_append_right _ (List.mem_append_left _ hh)))) hown hK hP 0 rfl rfl 0 (by decide) (hts (.fieldLink RX3 43 "TypingPool$Floor" "book" "LTypingPool$Book;") (List.mem_cons_of_mem _ (List.mem_append_left _ (List.mem_of_getElem? (i := 0) rfl)))) (fun _ h9 => h9) rfl dX3_workAll_4 ?_
  refine va_get (D := (dC, dI)) (ci := 1) (v := .int 0) (C := RX1) (T := TX1) (N := 8) hx hb hts (fun _ hh => (List.mem_cons_of_mem _ (List.mem_append_right _ (List.mem_append_right _ (List.mem_append_left _ hh))))) hown hK hP 1 rfl rfl 3 (by decide) (hts (.fieldLink RX3 75 "TypingPool$Book" "handCount" "I") (List.mem_cons_of_mem _ (List.mem_append_left _ (List.mem_of_getElem? (i := 1) rfl)))) (fun _ h9 => h9) rfl dX3_workAll_7 ?_
  refine lv_icmp_ge (tgt := 87) hx hb dX3_workAll_10 (by decide) (fun c_269 => ?_) (fun c_269 => absurd c_269 (fun z => z (by decide)))
  have hP9 := hP.sub (ws' := [(h0, .inr (3, [.ref bo, .ref c1, .int nw, .ref d0, .ref d1, .ref d2, .ref d3, .ref d4, .ref d5, .ref d6, .ref d7, .ref d8])), (bo, .inr (1, [.ref b0, .int 0, .ref b1, .int 0, .ref b2, .int 0, .ref b3, .int 0]))]) [0, 1] rfl
  have hD9 := hD.sub (ws' := [(h0, .inr (3, [.ref bo, .ref c1, .int nw, .ref d0, .ref d1, .ref d2, .ref d3, .ref d4, .ref d5, .ref d6, .ref d7, .ref d8])), (bo, .inr (1, [.ref b0, .int 0, .ref b1, .int 0, .ref b2, .int 0, .ref b3, .int 0]))]) [0, 1] (by decide) rfl
  have hK9 := hK.sub (tys' := []) [] rfl
  exact W.vret hx hb hr (fun t ht hW => ⟨⟨(), rfl, trivial, ⟨by rw [ht]; exact hP9, va_K.moved hW.alike hK9, hD9⟩⟩, hS.F ht⟩) hS.2.2 dX3_workAll_87
def wo_c_changeFrom0a : List Cond := [.fieldLink RX3 9 "TypingPool$Floor" "now" "I", .fieldLink RX3 43 "TypingPool$Floor" "book" "LTypingPool$Book;", .methodLink RX3 126 Lib.Math.min.name, .static Lib.Math.min.name, .initialized "java/lang/Math", .code Lib.Math.min.name Lib.Math.min.code 2 (some .int), .methodLink RX3 129 yX1_changeBehind, .instanceMethod yX1_changeBehind, .selects RX1 yX1_changeBehind yX1_changeBehind, .initialized RX1, .fieldLink RX3 75 "TypingPool$Book" "handCount" "I"]
def wm_c_changeFrom0a : List Cond := .code yX3_changeFrom cX3_changeFrom 6 (some .int) :: (wo_c_changeFrom0a ++ (wsX30 ++ (wm_c_changeBehind0 ++ (wsX10 ++ ([] : List Cond)))))
theorem gd_c_changeFrom0a : ∀ w ∈ wm_c_changeFrom0a, goodWord w = true := gd_c rfl (gd_a (by decide) (gd_a gd_wsX30 (gd_a gd_c_changeBehind0 (gd_a gd_wsX10 gd_nil))))
set_option maxRecDepth 20000 in
theorem im_c_changeFrom0a : ∀ w ∈ wm_c_changeFrom0a, w ∈ lw_tbl := im_c (in_r [.code yX3_changeFrom cX3_changeFrom 6 (some .int)] [827] (by decide +kernel)) (in_app (in_r wo_c_changeFrom0a [428, 426, 828, 260, 78, 261, 829, 830, 831, 71, 125] (by decide +kernel)) (in_app im_wsX30 (in_app im_c_changeBehind0 (in_app im_wsX10 im_nil))))
set_option maxHeartbeats 4000000 in
set_option maxRecDepth 100000 in
theorem c_changeFrom0a (l : Launch) (dC : Nat → ClassId) (dI : Nat → Nat → Nat) (ad av : Nat → Nat) (sz : Nat) (h0 : Nat) (bo : Nat) (c1 : Nat) (d0 : Nat) (d1 : Nat) (d2 : Nat) (d3 : Nat) (d4 : Nat) (d5 : Nat) (d6 : Nat) (d7 : Nat) (d8 : Nat) (b0 : Nat) (b1 : Nat) (b2 : Nat) (b3 : Nat) (p0 : Int32) (p1 : Int32) (hh : p1 ≤ 480) : Met l yX3_changeFrom wm_c_changeFrom0a ({ frames := 2, cells := 0, slots := 0, locals := 60 }) (pr_ ad av (dC, dI) sz [.ref h0, .int p0, .int p1] [(h0, .inr (3, [.ref bo, .ref c1, .int 0, .ref d0, .ref d1, .ref d2, .ref d3, .ref d4, .ref d5, .ref d6, .ref d7, .ref d8])), (bo, .inr (1, [.ref b0, .int 0, .ref b1, .int 0, .ref b2, .int 0, .ref b3, .int 0]))] []) (va_Qi (fun (r u : Int32) => u = r) (fun (r : Int32) (t : State) => (r = p1 ∧ po_ (dC, dI) (va_A [(h0, .inr (3, [.ref bo, .ref c1, .int 0, .ref d0, .ref d1, .ref d2, .ref d3, .ref d4, .ref d5, .ref d6, .ref d7, .ref d8])), (bo, .inr (1, [.ref b0, .int 0, .ref b1, .int 0, .ref b2, .int 0, .ref b3, .int 0]))] sz) [(h0, .inr (3, [.ref bo, .ref c1, .int 0, .ref d0, .ref d1, .ref d2, .ref d3, .ref d4, .ref d5, .ref d6, .ref d7, .ref d8])), (bo, .inr (1, [.ref b0, .int 0, .ref b1, .int 0, .ref b2, .int 0, .ref b3, .int 0]))] [] t)) (va_A [(h0, .inr (3, [.ref bo, .ref c1, .int 0, .ref d0, .ref d1, .ref d2, .ref d3, .ref d4, .ref d5, .ref d6, .ref d7, .ref d8])), (bo, .inr (1, [.ref b0, .int 0, .ref b1, .int 0, .ref b2, .int 0, .ref b3, .int 0]))] sz)) 0 0 (va_A [(h0, .inr (3, [.ref bo, .ref c1, .int 0, .ref d0, .ref d1, .ref d2, .ref d3, .ref d4, .ref d5, .ref d6, .ref d7, .ref d8])), (bo, .inr (1, [.ref b0, .int 0, .ref b1, .int 0, .ref b2, .int 0, .ref b3, .int 0]))] sz) := by
  refine Met.ofW (cc := cX3_changeFrom) (maxL := 6) (ret := (some .int)) (by decide) rfl ?_
  intro p e s m args below meth c s₁ B hml hv
  obtain ⟨rfl, hsz, hP, hK, hD0, hM⟩ := hv
  have hx := B.exec
  have hb := B.bytes
  have hr := B.returns
  have hts := atoms_spec (ws := wm_c_changeFrom0a) B.pre
  have hown : s.vm.findClass RX3 = some m.cls := findClass_of_methodNamed B.named
  have hlocks := B.notSynchronized
  subst hsz
  have hD := hD0.self (sz := s.heap.size)
  generalize hAe : va_A [(h0, .inr (3, [.ref bo, .ref c1, .int 0, .ref d0, .ref d1, .ref d2, .ref d3, .ref d4, .ref d5, .ref d6, .ref d7, .ref d8])), (bo, .inr (1, [.ref b0, .int 0, .ref b1, .int 0, .ref b2, .int 0, .ref b3, .int 0]))] s.heap.size = A at hD hM ⊢
  have hA : ∀ q : Nat, s.heap.size ≤ q → A q := fun q h => by rw [← hAe]; exact Or.inr h
  have hS : va_S A s.heap s.heap [] := va_S.rf
  have hP : va_P (dC, dI) vwCl [(h0, .inr (3, [.ref bo, .ref c1, .int 0, .ref d0, .ref d1, .ref d2, .ref d3, .ref d4, .ref d5, .ref d6, .ref d7, .ref d8])), (bo, .inr (1, [.ref b0, .int 0, .ref b1, .int 0, .ref b2, .int 0, .ref b3, .int 0]))] s.heap := hP
  have hl := lv_entry ([.ref h0, .int p0, .int p1]) (n := 6) (Nat.le_of_ble_eq_true rfl)
  rw [lg_entry_eq]
  generalize (lg_sl ([.ref h0, .int p0, .int p1]) ++ List.replicate (6 - (lg_sl ([.ref h0, .int p0, .int p1])).length) Slot.unset).toArray = ls at hl ⊢
  have hl : lv_has ls 6 [(0, .ref h0), (1, .int p0), (2, .int p1)] := hl
  refine lv_aload_n hx hb dX3_changeFrom_0 rfl (lv_at hl 0 rfl) ?_
  refine va_get (D := (dC, dI)) (ci := 3) (v := .int 0) (C := RX3) (T := TX3) (N := 12) hx hb hts (fun _ hh => (List.mem_cons_of_mem _ (List.mem_append_right _ (List.mem_append_left _ hh)))) hown hK hP 0 rfl rfl 2 (by decide) (hts (.fieldLink RX3 9 "TypingPool$Floor" "now" "I") (List.mem_cons_of_mem _ (List.mem_append_left _ (List.mem_of_getElem? (i := 0) rfl)))) (fun _ h9 => h9) rfl dX3_changeFrom_1 ?_
  refine lv_aload_n hx hb dX3_changeFrom_4 rfl (lv_at hl 0 rfl) ?_
  refine va_get (D := (dC, dI)) (ci := 3) (v := .int 0) (C := RX3) (T := TX3) (N := 12) hx hb hts (fun _ hh => (List.mem_cons_of_mem _ (List.mem_append_right _ (List.mem_append_left _ hh)))) hown hK hP 0 rfl rfl 2 (by decide) (hts (.fieldLink RX3 9 "TypingPool$Floor" "now" "I") (List.mem_cons_of_mem _ (List.mem_append_left _ (List.mem_of_getElem? (i := 0) rfl)))) (fun _ h9 => h9) rfl dX3_changeFrom_5 ?_
  refine lv_sipush (v := 480) hx hb dX3_changeFrom_8 (by decide) ?_
  refine lv_irem hx hb dX3_changeFrom_11 (by decide) ?_
  refine lq_top (v := 0) (by decide) ?_
  refine lv_isub hx hb dX3_changeFrom_12 ?_
  refine lq_top (v := 0) (by decide) ?_
  refine lv_sipush (v := 480) hx hb dX3_changeFrom_13 (by decide) ?_
  refine lv_iadd hx hb dX3_changeFrom_16 ?_
  refine lq_top (v := 480) (by decide) ?_
  refine lv_istore_n (lv' := [(3, .int 480), (0, .ref h0), (1, .int p0), (2, .int p1)]) hx hb dX3_changeFrom_17 rfl hl (by decide) rfl (fun ls hl => ?_)
  refine lv_aload_n hx hb dX3_changeFrom_18 rfl (lv_at hl 1 rfl) ?_
  refine va_get (D := (dC, dI)) (ci := 3) (v := .ref bo) (C := RX3) (T := TX3) (N := 12) hx hb hts (fun _ hh => (List.mem_cons_of_mem _ (List.mem_append_right _ (List.mem_append_left _ hh)))) hown hK hP 0 rfl rfl 0 (by decide) (hts (.fieldLink RX3 43 "TypingPool$Floor" "book" "LTypingPool$Book;") (List.mem_cons_of_mem _ (List.mem_append_left _ (List.mem_of_getElem? (i := 1) rfl)))) (fun _ h9 => h9) rfl dX3_changeFrom_19 ?_
  refine lv_aload_n hx hb dX3_changeFrom_22 rfl (lv_at hl 1 rfl) ?_
  refine va_get (D := (dC, dI)) (ci := 3) (v := .int 0) (C := RX3) (T := TX3) (N := 12) hx hb hts (fun _ hh => (List.mem_cons_of_mem _ (List.mem_append_right _ (List.mem_append_left _ hh)))) hown hK hP 0 rfl rfl 2 (by decide) (hts (.fieldLink RX3 9 "TypingPool$Floor" "now" "I") (List.mem_cons_of_mem _ (List.mem_append_left _ (List.mem_of_getElem? (i := 0) rfl)))) (fun _ h9 => h9) rfl dX3_changeFrom_23 ?_
  refine lv_iload_n hx hb dX3_changeFrom_26 rfl (lv_at hl 3 rfl) ?_
  refine lv_iload_n hx hb dX3_changeFrom_27 rfl (lv_at hl 0 rfl) ?_
  refine va_mmin hx hb (by rw [hml]; exact hl.1.symm) hown (hts (.methodLink RX3 126 Lib.Math.min.name) (List.mem_cons_of_mem _ (List.mem_append_left _ (List.mem_of_getElem? (i := 2) rfl)))) (hts (.static Lib.Math.min.name) (List.mem_cons_of_mem _ (List.mem_append_left _ (List.mem_of_getElem? (i := 3) rfl)))) (hts (.initialized "java/lang/Math") (List.mem_cons_of_mem _ (List.mem_append_left _ (List.mem_of_getElem? (i := 4) rfl)))) (hts (.code Lib.Math.min.name Lib.Math.min.code 2 (some .int)) (List.mem_cons_of_mem _ (List.mem_append_left _ (List.mem_of_getElem? (i := 5) rfl)))) (Nat.le_of_ble_eq_true rfl) (Nat.le_of_ble_eq_true rfl) (Nat.le_of_ble_eq_true rfl) (Nat.le_of_ble_eq_true rfl) dX3_changeFrom_28 ?_
  refine lq_top (v := p1) (if_neg (Int32.not_lt.mpr hh)) ?_
  have hPc := hP.sub (ws' := [(bo, .inr (1, [.ref b0, .int 0, .ref b1, .int 0, .ref b2, .int 0, .ref b3, .int 0]))]) [1] rfl
  have hDc := hD.sub (ws' := [(bo, .inr (1, [.ref b0, .int 0, .ref b1, .int 0, .ref b2, .int 0, .ref b3, .int 0]))]) [1] (by decide) rfl
  have hKc := hK.sub (tys' := []) [] rfl
  have hFc := va_free (wc := [(bo, .inr (1, [.ref b0, .int 0, .ref b1, .int 0, .ref b2, .int 0, .ref b3, .int 0]))]) hD hS hA [1] rfl
  refine va_calli (va_runV (As := [.int 0, .int p1]) (rest := []) ⟨hx, hb, hml, hown, hts⟩ (c_changeBehind0 l dC dI ad av s.heap.size bo b0 b1 b2 b3 0 p1 ) (cwV 2 hts (gi_4 (List.mem_cons_of_mem _ (List.mem_append_left _ (List.mem_of_getElem? (i := 6) rfl))) (List.mem_cons_of_mem _ (List.mem_append_left _ (List.mem_of_getElem? (i := 7) rfl))) (List.mem_cons_of_mem _ (List.mem_append_left _ (List.mem_of_getElem? (i := 8) rfl))) (List.mem_cons_of_mem _ (List.mem_append_left _ (List.mem_of_getElem? (i := 9) rfl))) (fun _ hh => (List.mem_cons_of_mem _ (List.mem_append_right _ (List.mem_append_right _ (List.mem_append_left _ hh))))) gd_c_changeBehind0) rfl rfl rfl (by decide +kernel) ⟨Nat.le_of_ble_eq_true rfl, Nat.le_of_ble_eq_true rfl⟩) ⟨pr_blind, va_recv hKc hPc (ci := 1) (q0 := 0) rfl rfl, pr_use hPc hKc hDc hFc hS hM⟩ rfl rfl hl.1 rfl (lv_room (Nat.le_of_ble_eq_true rfl)) dX3_changeFrom_31 ⟨Nat.le_of_ble_eq_true rfl, Nat.le_of_ble_eq_true rfl⟩) hS (fun q _ h => hFc q h) hFc (fun r_1 u t H locs ht hvm hw hB hz1 hk1 hS => ?_)
  refine W.widen (k := 0) (n := 0) (Nat.le_of_ble_eq_true rfl) (Nat.le_of_ble_eq_true rfl) ?_
  subst hw
  obtain ⟨hre_2, hP1, hK1, hD1⟩ := hB
  refine lq_top (v := p1) hre_2 ?_
  rw [ht] at hP1
  have hK1 := va_K.moved hvm.symm hK1
  obtain ⟨hP, hD⟩ := va_join (wr := [(h0, .inr (3, [.ref bo, .ref c1, .int 0, .ref d0, .ref d1, .ref d2, .ref d3, .ref d4, .ref d5, .ref d6, .ref d7, .ref d8]))]) (w1 := [(bo, .inr (1, [.ref b0, .int 0, .ref b1, .int 0, .ref b2, .int 0, .ref b3, .int 0]))]) hP hD [1] [0] rfl rfl (by decide) (by decide) hk1 hFc hP1 hD1
  have hK := (hK.sub (tys' := []) [] rfl).app hK1
  have hP : va_P (dC, dI) vwCl [(h0, .inr (3, [.ref bo, .ref c1, .int 0, .ref d0, .ref d1, .ref d2, .ref d3, .ref d4, .ref d5, .ref d6, .ref d7, .ref d8])), (bo, .inr (1, [.ref b0, .int 0, .ref b1, .int 0, .ref b2, .int 0, .ref b3, .int 0]))] H := hP
  have hD : va_D A [(h0, .inr (3, [.ref bo, .ref c1, .int 0, .ref d0, .ref d1, .ref d2, .ref d3, .ref d4, .ref d5, .ref d6, .ref d7, .ref d8])), (bo, .inr (1, [.ref b0, .int 0, .ref b1, .int 0, .ref b2, .int 0, .ref b3, .int 0]))] := hD
  have hK : va_K (dC, dI) vwCl [] s := hK
  refine lv_istore (lv' := [(4, .int p1), (3, .int 480), (0, .ref h0), (1, .int p0), (2, .int p1)]) hx hb dX3_changeFrom_34 hl (by decide) rfl (fun ls hl => ?_)
  refine lv_iconst (v := 0) hx hb dX3_changeFrom_36 (by decide) ?_
  refine lv_istore (lv' := [(5, .int 0), (4, .int p1), (3, .int 480), (0, .ref h0), (1, .int p0), (2, .int p1)]) hx hb dX3_changeFrom_37 hl (by decide) rfl (fun ls hl => ?_)
  refine lv_iload hx hb dX3_changeFrom_39 (lv_at hl 0 rfl) ?_
  refine lv_aload_n hx hb dX3_changeFrom_41 rfl (lv_at hl 3 rfl) ?_
  refine va_get (D := (dC, dI)) (ci := 3) (v := .ref bo) (C := RX3) (T := TX3) (N := 12) hx hb hts (fun _ hh => (List.mem_cons_of_mem _ (List.mem_append_right _ (List.mem_append_left _ hh)))) hown hK hP 0 rfl rfl 0 (by decide) (hts (.fieldLink RX3 43 "TypingPool$Floor" "book" "LTypingPool$Book;") (List.mem_cons_of_mem _ (List.mem_append_left _ (List.mem_of_getElem? (i := 1) rfl)))) (fun _ h9 => h9) rfl dX3_changeFrom_42 ?_
  refine va_get (D := (dC, dI)) (ci := 1) (v := .int 0) (C := RX1) (T := TX1) (N := 8) hx hb hts (fun _ hh => (List.mem_cons_of_mem _ (List.mem_append_right _ (List.mem_append_right _ (List.mem_append_right _ (List.mem_append_left _ hh)))))) hown hK hP 1 rfl rfl 3 (by decide) (hts (.fieldLink RX3 75 "TypingPool$Book" "handCount" "I") (List.mem_cons_of_mem _ (List.mem_append_left _ (List.mem_of_getElem? (i := 10) rfl)))) (fun _ h9 => h9) rfl dX3_changeFrom_45 ?_
  refine lv_icmp_ge (tgt := 101) hx hb dX3_changeFrom_48 (by decide) (fun c_3 => ?_) (fun c_3 => absurd c_3 (fun z => z (by decide)))
  refine lv_iload hx hb dX3_changeFrom_101 (lv_at hl 1 rfl) ?_
  have hP9 := hP.sub (ws' := [(h0, .inr (3, [.ref bo, .ref c1, .int 0, .ref d0, .ref d1, .ref d2, .ref d3, .ref d4, .ref d5, .ref d6, .ref d7, .ref d8])), (bo, .inr (1, [.ref b0, .int 0, .ref b1, .int 0, .ref b2, .int 0, .ref b3, .int 0]))]) [0, 1] rfl
  have hD9 := hD.sub (ws' := [(h0, .inr (3, [.ref bo, .ref c1, .int 0, .ref d0, .ref d1, .ref d2, .ref d3, .ref d4, .ref d5, .ref d6, .ref d7, .ref d8])), (bo, .inr (1, [.ref b0, .int 0, .ref b1, .int 0, .ref b2, .int 0, .ref b3, .int 0]))]) [0, 1] (by decide) rfl
  have hK9 := hK.sub (tys' := []) [] rfl
  exact W.iret (v := p1) hx hb hr (fun t ht hW => ⟨⟨p1, p1, rfl, rfl, ⟨rfl, by rw [ht]; exact hP9, va_K.moved hW.alike hK9, hD9⟩⟩, hS.F ht⟩) hS.2.2 dX3_changeFrom_103
def wo_c_changeFrom0b : List Cond := [.fieldLink RX3 9 "TypingPool$Floor" "now" "I", .fieldLink RX3 43 "TypingPool$Floor" "book" "LTypingPool$Book;", .methodLink RX3 126 Lib.Math.min.name, .static Lib.Math.min.name, .initialized "java/lang/Math", .code Lib.Math.min.name Lib.Math.min.code 2 (some .int), .methodLink RX3 129 yX1_changeBehind, .instanceMethod yX1_changeBehind, .selects RX1 yX1_changeBehind yX1_changeBehind, .initialized RX1, .fieldLink RX3 75 "TypingPool$Book" "handCount" "I"]
def wm_c_changeFrom0b : List Cond := .code yX3_changeFrom cX3_changeFrom 6 (some .int) :: (wo_c_changeFrom0b ++ (wsX30 ++ (wm_c_changeBehind0 ++ (wsX10 ++ ([] : List Cond)))))
theorem gd_c_changeFrom0b : ∀ w ∈ wm_c_changeFrom0b, goodWord w = true := gd_c rfl (gd_a (by decide) (gd_a gd_wsX30 (gd_a gd_c_changeBehind0 (gd_a gd_wsX10 gd_nil))))
set_option maxRecDepth 20000 in
theorem im_c_changeFrom0b : ∀ w ∈ wm_c_changeFrom0b, w ∈ lw_tbl := im_c (in_r [.code yX3_changeFrom cX3_changeFrom 6 (some .int)] [827] (by decide +kernel)) (in_app (in_r wo_c_changeFrom0b [428, 426, 828, 260, 78, 261, 829, 830, 831, 71, 125] (by decide +kernel)) (in_app im_wsX30 (in_app im_c_changeBehind0 (in_app im_wsX10 im_nil))))
set_option maxHeartbeats 4000000 in
set_option maxRecDepth 100000 in
theorem c_changeFrom0b (l : Launch) (dC : Nat → ClassId) (dI : Nat → Nat → Nat) (ad av : Nat → Nat) (sz : Nat) (h0 : Nat) (bo : Nat) (c1 : Nat) (d0 : Nat) (d1 : Nat) (d2 : Nat) (d3 : Nat) (d4 : Nat) (d5 : Nat) (d6 : Nat) (d7 : Nat) (d8 : Nat) (b0 : Nat) (b1 : Nat) (b2 : Nat) (b3 : Nat) (p0 : Int32) (p1 : Int32) (hh : 480 < p1) : Met l yX3_changeFrom wm_c_changeFrom0b ({ frames := 2, cells := 0, slots := 0, locals := 60 }) (pr_ ad av (dC, dI) sz [.ref h0, .int p0, .int p1] [(h0, .inr (3, [.ref bo, .ref c1, .int 0, .ref d0, .ref d1, .ref d2, .ref d3, .ref d4, .ref d5, .ref d6, .ref d7, .ref d8])), (bo, .inr (1, [.ref b0, .int 0, .ref b1, .int 0, .ref b2, .int 0, .ref b3, .int 0]))] []) (va_Qi (fun (r u : Int32) => u = r) (fun (r : Int32) (t : State) => (r = 480 ∧ po_ (dC, dI) (va_A [(h0, .inr (3, [.ref bo, .ref c1, .int 0, .ref d0, .ref d1, .ref d2, .ref d3, .ref d4, .ref d5, .ref d6, .ref d7, .ref d8])), (bo, .inr (1, [.ref b0, .int 0, .ref b1, .int 0, .ref b2, .int 0, .ref b3, .int 0]))] sz) [(h0, .inr (3, [.ref bo, .ref c1, .int 0, .ref d0, .ref d1, .ref d2, .ref d3, .ref d4, .ref d5, .ref d6, .ref d7, .ref d8])), (bo, .inr (1, [.ref b0, .int 0, .ref b1, .int 0, .ref b2, .int 0, .ref b3, .int 0]))] [] t)) (va_A [(h0, .inr (3, [.ref bo, .ref c1, .int 0, .ref d0, .ref d1, .ref d2, .ref d3, .ref d4, .ref d5, .ref d6, .ref d7, .ref d8])), (bo, .inr (1, [.ref b0, .int 0, .ref b1, .int 0, .ref b2, .int 0, .ref b3, .int 0]))] sz)) 0 0 (va_A [(h0, .inr (3, [.ref bo, .ref c1, .int 0, .ref d0, .ref d1, .ref d2, .ref d3, .ref d4, .ref d5, .ref d6, .ref d7, .ref d8])), (bo, .inr (1, [.ref b0, .int 0, .ref b1, .int 0, .ref b2, .int 0, .ref b3, .int 0]))] sz) := by
  refine Met.ofW (cc := cX3_changeFrom) (maxL := 6) (ret := (some .int)) (by decide) rfl ?_
  intro p e s m args below meth c s₁ B hml hv
  obtain ⟨rfl, hsz, hP, hK, hD0, hM⟩ := hv
  have hx := B.exec
  have hb := B.bytes
  have hr := B.returns
  have hts := atoms_spec (ws := wm_c_changeFrom0b) B.pre
  have hown : s.vm.findClass RX3 = some m.cls := findClass_of_methodNamed B.named
  have hlocks := B.notSynchronized
  subst hsz
  have hD := hD0.self (sz := s.heap.size)
  generalize hAe : va_A [(h0, .inr (3, [.ref bo, .ref c1, .int 0, .ref d0, .ref d1, .ref d2, .ref d3, .ref d4, .ref d5, .ref d6, .ref d7, .ref d8])), (bo, .inr (1, [.ref b0, .int 0, .ref b1, .int 0, .ref b2, .int 0, .ref b3, .int 0]))] s.heap.size = A at hD hM ⊢
  have hA : ∀ q : Nat, s.heap.size ≤ q → A q := fun q h => by rw [← hAe]; exact Or.inr h
  have hS : va_S A s.heap s.heap [] := va_S.rf
  have hP : va_P (dC, dI) vwCl [(h0, .inr (3, [.ref bo, .ref c1, .int 0, .ref d0, .ref d1, .ref d2, .ref d3, .ref d4, .ref d5, .ref d6, .ref d7, .ref d8])), (bo, .inr (1, [.ref b0, .int 0, .ref b1, .int 0, .ref b2, .int 0, .ref b3, .int 0]))] s.heap := hP
  have hl := lv_entry ([.ref h0, .int p0, .int p1]) (n := 6) (Nat.le_of_ble_eq_true rfl)
  rw [lg_entry_eq]
  generalize (lg_sl ([.ref h0, .int p0, .int p1]) ++ List.replicate (6 - (lg_sl ([.ref h0, .int p0, .int p1])).length) Slot.unset).toArray = ls at hl ⊢
  have hl : lv_has ls 6 [(0, .ref h0), (1, .int p0), (2, .int p1)] := hl
  refine lv_aload_n hx hb dX3_changeFrom_0 rfl (lv_at hl 0 rfl) ?_
  refine va_get (D := (dC, dI)) (ci := 3) (v := .int 0) (C := RX3) (T := TX3) (N := 12) hx hb hts (fun _ hh => (List.mem_cons_of_mem _ (List.mem_append_right _ (List.mem_append_left _ hh)))) hown hK hP 0 rfl rfl 2 (by decide) (hts (.fieldLink RX3 9 "TypingPool$Floor" "now" "I") (List.mem_cons_of_mem _ (List.mem_append_left _ (List.mem_of_getElem? (i := 0) rfl)))) (fun _ h9 => h9) rfl dX3_changeFrom_1 ?_
  refine lv_aload_n hx hb dX3_changeFrom_4 rfl (lv_at hl 0 rfl) ?_
  refine va_get (D := (dC, dI)) (ci := 3) (v := .int 0) (C := RX3) (T := TX3) (N := 12) hx hb hts (fun _ hh => (List.mem_cons_of_mem _ (List.mem_append_right _ (List.mem_append_left _ hh)))) hown hK hP 0 rfl rfl 2 (by decide) (hts (.fieldLink RX3 9 "TypingPool$Floor" "now" "I") (List.mem_cons_of_mem _ (List.mem_append_left _ (List.mem_of_getElem? (i := 0) rfl)))) (fun _ h9 => h9) rfl dX3_changeFrom_5 ?_
  refine lv_sipush (v := 480) hx hb dX3_changeFrom_8 (by decide) ?_
  refine lv_irem hx hb dX3_changeFrom_11 (by decide) ?_
  refine lq_top (v := 0) (by decide) ?_
  refine lv_isub hx hb dX3_changeFrom_12 ?_
  refine lq_top (v := 0) (by decide) ?_
  refine lv_sipush (v := 480) hx hb dX3_changeFrom_13 (by decide) ?_
  refine lv_iadd hx hb dX3_changeFrom_16 ?_
  refine lq_top (v := 480) (by decide) ?_
  refine lv_istore_n (lv' := [(3, .int 480), (0, .ref h0), (1, .int p0), (2, .int p1)]) hx hb dX3_changeFrom_17 rfl hl (by decide) rfl (fun ls hl => ?_)
  refine lv_aload_n hx hb dX3_changeFrom_18 rfl (lv_at hl 1 rfl) ?_
  refine va_get (D := (dC, dI)) (ci := 3) (v := .ref bo) (C := RX3) (T := TX3) (N := 12) hx hb hts (fun _ hh => (List.mem_cons_of_mem _ (List.mem_append_right _ (List.mem_append_left _ hh)))) hown hK hP 0 rfl rfl 0 (by decide) (hts (.fieldLink RX3 43 "TypingPool$Floor" "book" "LTypingPool$Book;") (List.mem_cons_of_mem _ (List.mem_append_left _ (List.mem_of_getElem? (i := 1) rfl)))) (fun _ h9 => h9) rfl dX3_changeFrom_19 ?_
  refine lv_aload_n hx hb dX3_changeFrom_22 rfl (lv_at hl 1 rfl) ?_
  refine va_get (D := (dC, dI)) (ci := 3) (v := .int 0) (C := RX3) (T := TX3) (N := 12) hx hb hts (fun _ hh => (List.mem_cons_of_mem _ (List.mem_append_right _ (List.mem_append_left _ hh)))) hown hK hP 0 rfl rfl 2 (by decide) (hts (.fieldLink RX3 9 "TypingPool$Floor" "now" "I") (List.mem_cons_of_mem _ (List.mem_append_left _ (List.mem_of_getElem? (i := 0) rfl)))) (fun _ h9 => h9) rfl dX3_changeFrom_23 ?_
  refine lv_iload_n hx hb dX3_changeFrom_26 rfl (lv_at hl 3 rfl) ?_
  refine lv_iload_n hx hb dX3_changeFrom_27 rfl (lv_at hl 0 rfl) ?_
  refine va_mmin hx hb (by rw [hml]; exact hl.1.symm) hown (hts (.methodLink RX3 126 Lib.Math.min.name) (List.mem_cons_of_mem _ (List.mem_append_left _ (List.mem_of_getElem? (i := 2) rfl)))) (hts (.static Lib.Math.min.name) (List.mem_cons_of_mem _ (List.mem_append_left _ (List.mem_of_getElem? (i := 3) rfl)))) (hts (.initialized "java/lang/Math") (List.mem_cons_of_mem _ (List.mem_append_left _ (List.mem_of_getElem? (i := 4) rfl)))) (hts (.code Lib.Math.min.name Lib.Math.min.code 2 (some .int)) (List.mem_cons_of_mem _ (List.mem_append_left _ (List.mem_of_getElem? (i := 5) rfl)))) (Nat.le_of_ble_eq_true rfl) (Nat.le_of_ble_eq_true rfl) (Nat.le_of_ble_eq_true rfl) (Nat.le_of_ble_eq_true rfl) dX3_changeFrom_28 ?_
  refine lq_top (v := 480) (if_pos hh) ?_
  have hPc := hP.sub (ws' := [(bo, .inr (1, [.ref b0, .int 0, .ref b1, .int 0, .ref b2, .int 0, .ref b3, .int 0]))]) [1] rfl
  have hDc := hD.sub (ws' := [(bo, .inr (1, [.ref b0, .int 0, .ref b1, .int 0, .ref b2, .int 0, .ref b3, .int 0]))]) [1] (by decide) rfl
  have hKc := hK.sub (tys' := []) [] rfl
  have hFc := va_free (wc := [(bo, .inr (1, [.ref b0, .int 0, .ref b1, .int 0, .ref b2, .int 0, .ref b3, .int 0]))]) hD hS hA [1] rfl
  refine va_calli (va_runV (As := [.int 0, .int 480]) (rest := []) ⟨hx, hb, hml, hown, hts⟩ (c_changeBehind0 l dC dI ad av s.heap.size bo b0 b1 b2 b3 0 480 ) (cwV 2 hts (gi_4 (List.mem_cons_of_mem _ (List.mem_append_left _ (List.mem_of_getElem? (i := 6) rfl))) (List.mem_cons_of_mem _ (List.mem_append_left _ (List.mem_of_getElem? (i := 7) rfl))) (List.mem_cons_of_mem _ (List.mem_append_left _ (List.mem_of_getElem? (i := 8) rfl))) (List.mem_cons_of_mem _ (List.mem_append_left _ (List.mem_of_getElem? (i := 9) rfl))) (fun _ hh => (List.mem_cons_of_mem _ (List.mem_append_right _ (List.mem_append_right _ (List.mem_append_left _ hh))))) gd_c_changeBehind0) rfl rfl rfl (by decide +kernel) ⟨Nat.le_of_ble_eq_true rfl, Nat.le_of_ble_eq_true rfl⟩) ⟨pr_blind, va_recv hKc hPc (ci := 1) (q0 := 0) rfl rfl, pr_use hPc hKc hDc hFc hS hM⟩ rfl rfl hl.1 rfl (lv_room (Nat.le_of_ble_eq_true rfl)) dX3_changeFrom_31 ⟨Nat.le_of_ble_eq_true rfl, Nat.le_of_ble_eq_true rfl⟩) hS (fun q _ h => hFc q h) hFc (fun r_4 u t H locs ht hvm hw hB hz1 hk1 hS => ?_)
  refine W.widen (k := 0) (n := 0) (Nat.le_of_ble_eq_true rfl) (Nat.le_of_ble_eq_true rfl) ?_
  subst hw
  obtain ⟨hre_5, hP1, hK1, hD1⟩ := hB
  refine lq_top (v := 480) hre_5 ?_
  rw [ht] at hP1
  have hK1 := va_K.moved hvm.symm hK1
  obtain ⟨hP, hD⟩ := va_join (wr := [(h0, .inr (3, [.ref bo, .ref c1, .int 0, .ref d0, .ref d1, .ref d2, .ref d3, .ref d4, .ref d5, .ref d6, .ref d7, .ref d8]))]) (w1 := [(bo, .inr (1, [.ref b0, .int 0, .ref b1, .int 0, .ref b2, .int 0, .ref b3, .int 0]))]) hP hD [1] [0] rfl rfl (by decide) (by decide) hk1 hFc hP1 hD1
  have hK := (hK.sub (tys' := []) [] rfl).app hK1
  have hP : va_P (dC, dI) vwCl [(h0, .inr (3, [.ref bo, .ref c1, .int 0, .ref d0, .ref d1, .ref d2, .ref d3, .ref d4, .ref d5, .ref d6, .ref d7, .ref d8])), (bo, .inr (1, [.ref b0, .int 0, .ref b1, .int 0, .ref b2, .int 0, .ref b3, .int 0]))] H := hP
  have hD : va_D A [(h0, .inr (3, [.ref bo, .ref c1, .int 0, .ref d0, .ref d1, .ref d2, .ref d3, .ref d4, .ref d5, .ref d6, .ref d7, .ref d8])), (bo, .inr (1, [.ref b0, .int 0, .ref b1, .int 0, .ref b2, .int 0, .ref b3, .int 0]))] := hD
  have hK : va_K (dC, dI) vwCl [] s := hK
  refine lv_istore (lv' := [(4, .int 480), (3, .int 480), (0, .ref h0), (1, .int p0), (2, .int p1)]) hx hb dX3_changeFrom_34 hl (by decide) rfl (fun ls hl => ?_)
  refine lv_iconst (v := 0) hx hb dX3_changeFrom_36 (by decide) ?_
  refine lv_istore (lv' := [(5, .int 0), (4, .int 480), (3, .int 480), (0, .ref h0), (1, .int p0), (2, .int p1)]) hx hb dX3_changeFrom_37 hl (by decide) rfl (fun ls hl => ?_)
  refine lv_iload hx hb dX3_changeFrom_39 (lv_at hl 0 rfl) ?_
  refine lv_aload_n hx hb dX3_changeFrom_41 rfl (lv_at hl 3 rfl) ?_
  refine va_get (D := (dC, dI)) (ci := 3) (v := .ref bo) (C := RX3) (T := TX3) (N := 12) hx hb hts (fun _ hh => (List.mem_cons_of_mem _ (List.mem_append_right _ (List.mem_append_left _ hh)))) hown hK hP 0 rfl rfl 0 (by decide) (hts (.fieldLink RX3 43 "TypingPool$Floor" "book" "LTypingPool$Book;") (List.mem_cons_of_mem _ (List.mem_append_left _ (List.mem_of_getElem? (i := 1) rfl)))) (fun _ h9 => h9) rfl dX3_changeFrom_42 ?_
  refine va_get (D := (dC, dI)) (ci := 1) (v := .int 0) (C := RX1) (T := TX1) (N := 8) hx hb hts (fun _ hh => (List.mem_cons_of_mem _ (List.mem_append_right _ (List.mem_append_right _ (List.mem_append_right _ (List.mem_append_left _ hh)))))) hown hK hP 1 rfl rfl 3 (by decide) (hts (.fieldLink RX3 75 "TypingPool$Book" "handCount" "I") (List.mem_cons_of_mem _ (List.mem_append_left _ (List.mem_of_getElem? (i := 10) rfl)))) (fun _ h9 => h9) rfl dX3_changeFrom_45 ?_
  refine lv_icmp_ge (tgt := 101) hx hb dX3_changeFrom_48 (by decide) (fun c_6 => ?_) (fun c_6 => absurd c_6 (fun z => z (by decide)))
  refine lv_iload hx hb dX3_changeFrom_101 (lv_at hl 1 rfl) ?_
  have hP9 := hP.sub (ws' := [(h0, .inr (3, [.ref bo, .ref c1, .int 0, .ref d0, .ref d1, .ref d2, .ref d3, .ref d4, .ref d5, .ref d6, .ref d7, .ref d8])), (bo, .inr (1, [.ref b0, .int 0, .ref b1, .int 0, .ref b2, .int 0, .ref b3, .int 0]))]) [0, 1] rfl
  have hD9 := hD.sub (ws' := [(h0, .inr (3, [.ref bo, .ref c1, .int 0, .ref d0, .ref d1, .ref d2, .ref d3, .ref d4, .ref d5, .ref d6, .ref d7, .ref d8])), (bo, .inr (1, [.ref b0, .int 0, .ref b1, .int 0, .ref b2, .int 0, .ref b3, .int 0]))]) [0, 1] (by decide) rfl
  have hK9 := hK.sub (tys' := []) [] rfl
  exact W.iret (v := 480) hx hb hr (fun t ht hW => ⟨⟨480, 480, rfl, rfl, ⟨rfl, by rw [ht]; exact hP9, va_K.moved hW.alike hK9, hD9⟩⟩, hS.F ht⟩) hS.2.2 dX3_changeFrom_103
def wo_c_changeFrom480 : List Cond := [.fieldLink RX3 9 "TypingPool$Floor" "now" "I", .fieldLink RX3 43 "TypingPool$Floor" "book" "LTypingPool$Book;", .methodLink RX3 126 Lib.Math.min.name, .static Lib.Math.min.name, .initialized "java/lang/Math", .code Lib.Math.min.name Lib.Math.min.code 2 (some .int), .methodLink RX3 129 yX1_changeBehind, .instanceMethod yX1_changeBehind, .selects RX1 yX1_changeBehind yX1_changeBehind, .initialized RX1, .fieldLink RX3 75 "TypingPool$Book" "handCount" "I"]
def wm_c_changeFrom480 : List Cond := .code yX3_changeFrom cX3_changeFrom 6 (some .int) :: (wo_c_changeFrom480 ++ (wsX30 ++ (wm_c_changeBehind0 ++ (wsX10 ++ ([] : List Cond)))))
theorem gd_c_changeFrom480 : ∀ w ∈ wm_c_changeFrom480, goodWord w = true := gd_c rfl (gd_a (by decide) (gd_a gd_wsX30 (gd_a gd_c_changeBehind0 (gd_a gd_wsX10 gd_nil))))
set_option maxRecDepth 20000 in
theorem im_c_changeFrom480 : ∀ w ∈ wm_c_changeFrom480, w ∈ lw_tbl := im_c (in_r [.code yX3_changeFrom cX3_changeFrom 6 (some .int)] [827] (by decide +kernel)) (in_app (in_r wo_c_changeFrom480 [428, 426, 828, 260, 78, 261, 829, 830, 831, 71, 125] (by decide +kernel)) (in_app im_wsX30 (in_app im_c_changeBehind0 (in_app im_wsX10 im_nil))))
set_option maxHeartbeats 4000000 in
set_option maxRecDepth 100000 in
theorem c_changeFrom480 (l : Launch) (dC : Nat → ClassId) (dI : Nat → Nat → Nat) (ad av : Nat → Nat) (sz : Nat) (h0 : Nat) (bo : Nat) (c1 : Nat) (d0 : Nat) (d1 : Nat) (d2 : Nat) (d3 : Nat) (d4 : Nat) (d5 : Nat) (d6 : Nat) (d7 : Nat) (d8 : Nat) (b0 : Nat) (b1 : Nat) (b2 : Nat) (b3 : Nat) (p0 : Int32) (p1 : Int32) (hh : p1 ≤ 960) : Met l yX3_changeFrom wm_c_changeFrom480 ({ frames := 2, cells := 0, slots := 0, locals := 60 }) (pr_ ad av (dC, dI) sz [.ref h0, .int p0, .int p1] [(h0, .inr (3, [.ref bo, .ref c1, .int 480, .ref d0, .ref d1, .ref d2, .ref d3, .ref d4, .ref d5, .ref d6, .ref d7, .ref d8])), (bo, .inr (1, [.ref b0, .int 0, .ref b1, .int 0, .ref b2, .int 0, .ref b3, .int 0]))] []) (va_Qi (fun (r u : Int32) => u = r) (fun (r : Int32) (t : State) => (r = p1 ∧ po_ (dC, dI) (va_A [(h0, .inr (3, [.ref bo, .ref c1, .int 480, .ref d0, .ref d1, .ref d2, .ref d3, .ref d4, .ref d5, .ref d6, .ref d7, .ref d8])), (bo, .inr (1, [.ref b0, .int 0, .ref b1, .int 0, .ref b2, .int 0, .ref b3, .int 0]))] sz) [(h0, .inr (3, [.ref bo, .ref c1, .int 480, .ref d0, .ref d1, .ref d2, .ref d3, .ref d4, .ref d5, .ref d6, .ref d7, .ref d8])), (bo, .inr (1, [.ref b0, .int 0, .ref b1, .int 0, .ref b2, .int 0, .ref b3, .int 0]))] [] t)) (va_A [(h0, .inr (3, [.ref bo, .ref c1, .int 480, .ref d0, .ref d1, .ref d2, .ref d3, .ref d4, .ref d5, .ref d6, .ref d7, .ref d8])), (bo, .inr (1, [.ref b0, .int 0, .ref b1, .int 0, .ref b2, .int 0, .ref b3, .int 0]))] sz)) 0 0 (va_A [(h0, .inr (3, [.ref bo, .ref c1, .int 480, .ref d0, .ref d1, .ref d2, .ref d3, .ref d4, .ref d5, .ref d6, .ref d7, .ref d8])), (bo, .inr (1, [.ref b0, .int 0, .ref b1, .int 0, .ref b2, .int 0, .ref b3, .int 0]))] sz) := by
  refine Met.ofW (cc := cX3_changeFrom) (maxL := 6) (ret := (some .int)) (by decide) rfl ?_
  intro p e s m args below meth c s₁ B hml hv
  obtain ⟨rfl, hsz, hP, hK, hD0, hM⟩ := hv
  have hx := B.exec
  have hb := B.bytes
  have hr := B.returns
  have hts := atoms_spec (ws := wm_c_changeFrom480) B.pre
  have hown : s.vm.findClass RX3 = some m.cls := findClass_of_methodNamed B.named
  have hlocks := B.notSynchronized
  subst hsz
  have hD := hD0.self (sz := s.heap.size)
  generalize hAe : va_A [(h0, .inr (3, [.ref bo, .ref c1, .int 480, .ref d0, .ref d1, .ref d2, .ref d3, .ref d4, .ref d5, .ref d6, .ref d7, .ref d8])), (bo, .inr (1, [.ref b0, .int 0, .ref b1, .int 0, .ref b2, .int 0, .ref b3, .int 0]))] s.heap.size = A at hD hM ⊢
  have hA : ∀ q : Nat, s.heap.size ≤ q → A q := fun q h => by rw [← hAe]; exact Or.inr h
  have hS : va_S A s.heap s.heap [] := va_S.rf
  have hP : va_P (dC, dI) vwCl [(h0, .inr (3, [.ref bo, .ref c1, .int 480, .ref d0, .ref d1, .ref d2, .ref d3, .ref d4, .ref d5, .ref d6, .ref d7, .ref d8])), (bo, .inr (1, [.ref b0, .int 0, .ref b1, .int 0, .ref b2, .int 0, .ref b3, .int 0]))] s.heap := hP
  have hl := lv_entry ([.ref h0, .int p0, .int p1]) (n := 6) (Nat.le_of_ble_eq_true rfl)
  rw [lg_entry_eq]
  generalize (lg_sl ([.ref h0, .int p0, .int p1]) ++ List.replicate (6 - (lg_sl ([.ref h0, .int p0, .int p1])).length) Slot.unset).toArray = ls at hl ⊢
  have hl : lv_has ls 6 [(0, .ref h0), (1, .int p0), (2, .int p1)] := hl
  refine lv_aload_n hx hb dX3_changeFrom_0 rfl (lv_at hl 0 rfl) ?_
  refine va_get (D := (dC, dI)) (ci := 3) (v := .int 480) (C := RX3) (T := TX3) (N := 12) hx hb hts (fun _ hh => (List.mem_cons_of_mem _ (List.mem_append_right _ (List.mem_append_left _ hh)))) hown hK hP 0 rfl rfl 2 (by decide) (hts (.fieldLink RX3 9 "TypingPool$Floor" "now" "I") (List.mem_cons_of_mem _ (List.mem_append_left _ (List.mem_of_getElem? (i := 0) rfl)))) (fun _ h9 => h9) rfl dX3_changeFrom_1 ?_
  refine lv_aload_n hx hb dX3_changeFrom_4 rfl (lv_at hl 0 rfl) ?_
  refine va_get (D := (dC, dI)) (ci := 3) (v := .int 480) (C := RX3) (T := TX3) (N := 12) hx hb hts (fun _ hh => (List.mem_cons_of_mem _ (List.mem_append_right _ (List.mem_append_left _ hh)))) hown hK hP 0 rfl rfl 2 (by decide) (hts (.fieldLink RX3 9 "TypingPool$Floor" "now" "I") (List.mem_cons_of_mem _ (List.mem_append_left _ (List.mem_of_getElem? (i := 0) rfl)))) (fun _ h9 => h9) rfl dX3_changeFrom_5 ?_
  refine lv_sipush (v := 480) hx hb dX3_changeFrom_8 (by decide) ?_
  refine lv_irem hx hb dX3_changeFrom_11 (by decide) ?_
  refine lq_top (v := 0) (by decide) ?_
  refine lv_isub hx hb dX3_changeFrom_12 ?_
  refine lq_top (v := 480) (by decide) ?_
  refine lv_sipush (v := 480) hx hb dX3_changeFrom_13 (by decide) ?_
  refine lv_iadd hx hb dX3_changeFrom_16 ?_
  refine lq_top (v := 960) (by decide) ?_
  refine lv_istore_n (lv' := [(3, .int 960), (0, .ref h0), (1, .int p0), (2, .int p1)]) hx hb dX3_changeFrom_17 rfl hl (by decide) rfl (fun ls hl => ?_)
  refine lv_aload_n hx hb dX3_changeFrom_18 rfl (lv_at hl 1 rfl) ?_
  refine va_get (D := (dC, dI)) (ci := 3) (v := .ref bo) (C := RX3) (T := TX3) (N := 12) hx hb hts (fun _ hh => (List.mem_cons_of_mem _ (List.mem_append_right _ (List.mem_append_left _ hh)))) hown hK hP 0 rfl rfl 0 (by decide) (hts (.fieldLink RX3 43 "TypingPool$Floor" "book" "LTypingPool$Book;") (List.mem_cons_of_mem _ (List.mem_append_left _ (List.mem_of_getElem? (i := 1) rfl)))) (fun _ h9 => h9) rfl dX3_changeFrom_19 ?_
  refine lv_aload_n hx hb dX3_changeFrom_22 rfl (lv_at hl 1 rfl) ?_
  refine va_get (D := (dC, dI)) (ci := 3) (v := .int 480) (C := RX3) (T := TX3) (N := 12) hx hb hts (fun _ hh => (List.mem_cons_of_mem _ (List.mem_append_right _ (List.mem_append_left _ hh)))) hown hK hP 0 rfl rfl 2 (by decide) (hts (.fieldLink RX3 9 "TypingPool$Floor" "now" "I") (List.mem_cons_of_mem _ (List.mem_append_left _ (List.mem_of_getElem? (i := 0) rfl)))) (fun _ h9 => h9) rfl dX3_changeFrom_23 ?_
  refine lv_iload_n hx hb dX3_changeFrom_26 rfl (lv_at hl 3 rfl) ?_
  refine lv_iload_n hx hb dX3_changeFrom_27 rfl (lv_at hl 0 rfl) ?_
  refine va_mmin hx hb (by rw [hml]; exact hl.1.symm) hown (hts (.methodLink RX3 126 Lib.Math.min.name) (List.mem_cons_of_mem _ (List.mem_append_left _ (List.mem_of_getElem? (i := 2) rfl)))) (hts (.static Lib.Math.min.name) (List.mem_cons_of_mem _ (List.mem_append_left _ (List.mem_of_getElem? (i := 3) rfl)))) (hts (.initialized "java/lang/Math") (List.mem_cons_of_mem _ (List.mem_append_left _ (List.mem_of_getElem? (i := 4) rfl)))) (hts (.code Lib.Math.min.name Lib.Math.min.code 2 (some .int)) (List.mem_cons_of_mem _ (List.mem_append_left _ (List.mem_of_getElem? (i := 5) rfl)))) (Nat.le_of_ble_eq_true rfl) (Nat.le_of_ble_eq_true rfl) (Nat.le_of_ble_eq_true rfl) (Nat.le_of_ble_eq_true rfl) dX3_changeFrom_28 ?_
  refine lq_top (v := p1) (if_neg (Int32.not_lt.mpr hh)) ?_
  have hPc := hP.sub (ws' := [(bo, .inr (1, [.ref b0, .int 0, .ref b1, .int 0, .ref b2, .int 0, .ref b3, .int 0]))]) [1] rfl
  have hDc := hD.sub (ws' := [(bo, .inr (1, [.ref b0, .int 0, .ref b1, .int 0, .ref b2, .int 0, .ref b3, .int 0]))]) [1] (by decide) rfl
  have hKc := hK.sub (tys' := []) [] rfl
  have hFc := va_free (wc := [(bo, .inr (1, [.ref b0, .int 0, .ref b1, .int 0, .ref b2, .int 0, .ref b3, .int 0]))]) hD hS hA [1] rfl
  refine va_calli (va_runV (As := [.int 480, .int p1]) (rest := []) ⟨hx, hb, hml, hown, hts⟩ (c_changeBehind0 l dC dI ad av s.heap.size bo b0 b1 b2 b3 480 p1 ) (cwV 2 hts (gi_4 (List.mem_cons_of_mem _ (List.mem_append_left _ (List.mem_of_getElem? (i := 6) rfl))) (List.mem_cons_of_mem _ (List.mem_append_left _ (List.mem_of_getElem? (i := 7) rfl))) (List.mem_cons_of_mem _ (List.mem_append_left _ (List.mem_of_getElem? (i := 8) rfl))) (List.mem_cons_of_mem _ (List.mem_append_left _ (List.mem_of_getElem? (i := 9) rfl))) (fun _ hh => (List.mem_cons_of_mem _ (List.mem_append_right _ (List.mem_append_right _ (List.mem_append_left _ hh))))) gd_c_changeBehind0) rfl rfl rfl (by decide +kernel) ⟨Nat.le_of_ble_eq_true rfl, Nat.le_of_ble_eq_true rfl⟩) ⟨pr_blind, va_recv hKc hPc (ci := 1) (q0 := 0) rfl rfl, pr_use hPc hKc hDc hFc hS hM⟩ rfl rfl hl.1 rfl (lv_room (Nat.le_of_ble_eq_true rfl)) dX3_changeFrom_31 ⟨Nat.le_of_ble_eq_true rfl, Nat.le_of_ble_eq_true rfl⟩) hS (fun q _ h => hFc q h) hFc (fun r_7 u t H locs ht hvm hw hB hz1 hk1 hS => ?_)
  refine W.widen (k := 0) (n := 0) (Nat.le_of_ble_eq_true rfl) (Nat.le_of_ble_eq_true rfl) ?_
  subst hw
  obtain ⟨hre_8, hP1, hK1, hD1⟩ := hB
  refine lq_top (v := p1) hre_8 ?_
  rw [ht] at hP1
  have hK1 := va_K.moved hvm.symm hK1
  obtain ⟨hP, hD⟩ := va_join (wr := [(h0, .inr (3, [.ref bo, .ref c1, .int 480, .ref d0, .ref d1, .ref d2, .ref d3, .ref d4, .ref d5, .ref d6, .ref d7, .ref d8]))]) (w1 := [(bo, .inr (1, [.ref b0, .int 0, .ref b1, .int 0, .ref b2, .int 0, .ref b3, .int 0]))]) hP hD [1] [0] rfl rfl (by decide) (by decide) hk1 hFc hP1 hD1
  have hK := (hK.sub (tys' := []) [] rfl).app hK1
  have hP : va_P (dC, dI) vwCl [(h0, .inr (3, [.ref bo, .ref c1, .int 480, .ref d0, .ref d1, .ref d2, .ref d3, .ref d4, .ref d5, .ref d6, .ref d7, .ref d8])), (bo, .inr (1, [.ref b0, .int 0, .ref b1, .int 0, .ref b2, .int 0, .ref b3, .int 0]))] H := hP
  have hD : va_D A [(h0, .inr (3, [.ref bo, .ref c1, .int 480, .ref d0, .ref d1, .ref d2, .ref d3, .ref d4, .ref d5, .ref d6, .ref d7, .ref d8])), (bo, .inr (1, [.ref b0, .int 0, .ref b1, .int 0, .ref b2, .int 0, .ref b3, .int 0]))] := hD
  have hK : va_K (dC, dI) vwCl [] s := hK
  refine lv_istore (lv' := [(4, .int p1), (3, .int 960), (0, .ref h0), (1, .int p0), (2, .int p1)]) hx hb dX3_changeFrom_34 hl (by decide) rfl (fun ls hl => ?_)
  refine lv_iconst (v := 0) hx hb dX3_changeFrom_36 (by decide) ?_
  refine lv_istore (lv' := [(5, .int 0), (4, .int p1), (3, .int 960), (0, .ref h0), (1, .int p0), (2, .int p1)]) hx hb dX3_changeFrom_37 hl (by decide) rfl (fun ls hl => ?_)
  refine lv_iload hx hb dX3_changeFrom_39 (lv_at hl 0 rfl) ?_
  refine lv_aload_n hx hb dX3_changeFrom_41 rfl (lv_at hl 3 rfl) ?_
  refine va_get (D := (dC, dI)) (ci := 3) (v := .ref bo) (C := RX3) (T := TX3) (N := 12) hx hb hts (fun _ hh => (List.mem_cons_of_mem _ (List.mem_append_right _ (List.mem_append_left _ hh)))) hown hK hP 0 rfl rfl 0 (by decide) (hts (.fieldLink RX3 43 "TypingPool$Floor" "book" "LTypingPool$Book;") (List.mem_cons_of_mem _ (List.mem_append_left _ (List.mem_of_getElem? (i := 1) rfl)))) (fun _ h9 => h9) rfl dX3_changeFrom_42 ?_
  refine va_get (D := (dC, dI)) (ci := 1) (v := .int 0) (C := RX1) (T := TX1) (N := 8) hx hb hts (fun _ hh => (List.mem_cons_of_mem _ (List.mem_append_right _ (List.mem_append_right _ (List.mem_append_right _ (List.mem_append_left _ hh)))))) hown hK hP 1 rfl rfl 3 (by decide) (hts (.fieldLink RX3 75 "TypingPool$Book" "handCount" "I") (List.mem_cons_of_mem _ (List.mem_append_left _ (List.mem_of_getElem? (i := 10) rfl)))) (fun _ h9 => h9) rfl dX3_changeFrom_45 ?_
  refine lv_icmp_ge (tgt := 101) hx hb dX3_changeFrom_48 (by decide) (fun c_9 => ?_) (fun c_9 => absurd c_9 (fun z => z (by decide)))
  refine lv_iload hx hb dX3_changeFrom_101 (lv_at hl 1 rfl) ?_
  have hP9 := hP.sub (ws' := [(h0, .inr (3, [.ref bo, .ref c1, .int 480, .ref d0, .ref d1, .ref d2, .ref d3, .ref d4, .ref d5, .ref d6, .ref d7, .ref d8])), (bo, .inr (1, [.ref b0, .int 0, .ref b1, .int 0, .ref b2, .int 0, .ref b3, .int 0]))]) [0, 1] rfl
  have hD9 := hD.sub (ws' := [(h0, .inr (3, [.ref bo, .ref c1, .int 480, .ref d0, .ref d1, .ref d2, .ref d3, .ref d4, .ref d5, .ref d6, .ref d7, .ref d8])), (bo, .inr (1, [.ref b0, .int 0, .ref b1, .int 0, .ref b2, .int 0, .ref b3, .int 0]))]) [0, 1] (by decide) rfl
  have hK9 := hK.sub (tys' := []) [] rfl
  exact W.iret (v := p1) hx hb hr (fun t ht hW => ⟨⟨p1, p1, rfl, rfl, ⟨rfl, by rw [ht]; exact hP9, va_K.moved hW.alike hK9, hD9⟩⟩, hS.F ht⟩) hS.2.2 dX3_changeFrom_103
def wo_c_runOn0 : List Cond := [.fieldLink RX3 9 "TypingPool$Floor" "now" "I", .fieldLink RX3 43 "TypingPool$Floor" "book" "LTypingPool$Book;", .methodLink RX3 57 yX1_awayMask, .instanceMethod yX1_awayMask, .selects RX1 yX1_awayMask yX1_awayMask, .initialized RX1, .methodLink RX3 63 yX3_takeAll, .instanceMethod yX3_takeAll, .selects RX3 yX3_takeAll yX3_takeAll, .initialized RX3, .methodLink RX3 67 yX3_changeFrom, .instanceMethod yX3_changeFrom, .selects RX3 yX3_changeFrom yX3_changeFrom, .methodLink RX3 71 yX3_workAll, .instanceMethod yX3_workAll, .selects RX3 yX3_workAll yX3_workAll]
def wm_c_runOn0 : List Cond := .code yX3_runOn cX3_runOn 8 none :: (wo_c_runOn0 ++ (wsX30 ++ (wm_c_awayMask0 ++ (wm_c_takeAll0 ++ (wm_c_changeFrom0a ++ (wm_c_workAll0 ++ (wm_c_changeFrom0b ++ (wm_c_changeFrom480 ++ ([] : List Cond)))))))))
theorem gd_c_runOn0 : ∀ w ∈ wm_c_runOn0, goodWord w = true := gd_c rfl (gd_a (by decide) (gd_a gd_wsX30 (gd_a gd_c_awayMask0 (gd_a gd_c_takeAll0 (gd_a gd_c_changeFrom0a (gd_a gd_c_workAll0 (gd_a gd_c_changeFrom0b (gd_a gd_c_changeFrom480 gd_nil))))))))
set_option maxRecDepth 20000 in
theorem im_c_runOn0 : ∀ w ∈ wm_c_runOn0, w ∈ lw_tbl := im_c (in_r [.code yX3_runOn cX3_runOn 8 none] [754] (by decide +kernel)) (in_app (in_r wo_c_runOn0 [428, 426, 755, 756, 757, 71, 759, 761, 8, 83, 824, 826, 13, 847, 849, 15] (by decide +kernel)) (in_app im_wsX30 (in_app im_c_awayMask0 (in_app im_c_takeAll0 (in_app im_c_changeFrom0a (in_app im_c_workAll0 (in_app im_c_changeFrom0b (in_app im_c_changeFrom480 im_nil))))))))
set_option maxHeartbeats 4000000 in
set_option maxRecDepth 100000 in
theorem c_runOn0 (l : Launch) (dC : Nat → ClassId) (dI : Nat → Nat → Nat) (ad av : Nat → Nat) (sz : Nat) (h0 : Nat) (bo : Nat) (c1 : Nat) (d0 : Nat) (d1 : Nat) (d2 : Nat) (d3 : Nat) (d4 : Nat) (d5 : Nat) (d6 : Nat) (d7 : Nat) (d8 : Nat) (b0 : Nat) (b1 : Nat) (b2 : Nat) (b3 : Nat) (p0 : Int32) (h1 : 0 ≤ p0) (h2 : p0 ≤ 960) : Met l yX3_runOn wm_c_runOn0 ({ frames := 4, cells := 0, slots := 0, locals := 200 }) (pr_ ad av (dC, dI) sz [.ref h0, .int p0, .null, .int (-1)] [(h0, .inr (3, [.ref bo, .ref c1, .int 0, .ref d0, .ref d1, .ref d2, .ref d3, .ref d4, .ref d5, .ref d6, .ref d7, .ref d8])), (bo, .inr (1, [.ref b0, .int 0, .ref b1, .int 0, .ref b2, .int 0, .ref b3, .int 0]))] []) (va_Qv (fun (_ : Unit) => True) (fun (_ : Unit) (t : State) => (∃ (w : Int32), w = p0 ∧ po_ (dC, dI) (va_A [(h0, .inr (3, [.ref bo, .ref c1, .int 0, .ref d0, .ref d1, .ref d2, .ref d3, .ref d4, .ref d5, .ref d6, .ref d7, .ref d8])), (bo, .inr (1, [.ref b0, .int 0, .ref b1, .int 0, .ref b2, .int 0, .ref b3, .int 0]))] sz) [(h0, .inr (3, [.ref bo, .ref c1, .int w, .ref d0, .ref d1, .ref d2, .ref d3, .ref d4, .ref d5, .ref d6, .ref d7, .ref d8])), (bo, .inr (1, [.ref b0, .int 0, .ref b1, .int 0, .ref b2, .int 0, .ref b3, .int 0]))] [] t)) (va_A [(h0, .inr (3, [.ref bo, .ref c1, .int 0, .ref d0, .ref d1, .ref d2, .ref d3, .ref d4, .ref d5, .ref d6, .ref d7, .ref d8])), (bo, .inr (1, [.ref b0, .int 0, .ref b1, .int 0, .ref b2, .int 0, .ref b3, .int 0]))] sz)) 0 0 (va_A [(h0, .inr (3, [.ref bo, .ref c1, .int 0, .ref d0, .ref d1, .ref d2, .ref d3, .ref d4, .ref d5, .ref d6, .ref d7, .ref d8])), (bo, .inr (1, [.ref b0, .int 0, .ref b1, .int 0, .ref b2, .int 0, .ref b3, .int 0]))] sz) := by
  refine Met.ofW (cc := cX3_runOn) (maxL := 8) (ret := none) (by decide) rfl ?_
  intro p e s m args below meth c s₁ B hml hv
  obtain ⟨rfl, hsz, hP, hK, hD0, hM⟩ := hv
  have hx := B.exec
  have hb := B.bytes
  have hr := B.returns
  have hts := atoms_spec (ws := wm_c_runOn0) B.pre
  have hown : s.vm.findClass RX3 = some m.cls := findClass_of_methodNamed B.named
  have hlocks := B.notSynchronized
  subst hsz
  have hD := hD0.self (sz := s.heap.size)
  generalize hAe : va_A [(h0, .inr (3, [.ref bo, .ref c1, .int 0, .ref d0, .ref d1, .ref d2, .ref d3, .ref d4, .ref d5, .ref d6, .ref d7, .ref d8])), (bo, .inr (1, [.ref b0, .int 0, .ref b1, .int 0, .ref b2, .int 0, .ref b3, .int 0]))] s.heap.size = A at hD hM ⊢
  have hA : ∀ q : Nat, s.heap.size ≤ q → A q := fun q h => by rw [← hAe]; exact Or.inr h
  have hS : va_S A s.heap s.heap [] := va_S.rf
  have hP : va_P (dC, dI) vwCl [(h0, .inr (3, [.ref bo, .ref c1, .int 0, .ref d0, .ref d1, .ref d2, .ref d3, .ref d4, .ref d5, .ref d6, .ref d7, .ref d8])), (bo, .inr (1, [.ref b0, .int 0, .ref b1, .int 0, .ref b2, .int 0, .ref b3, .int 0]))] s.heap := hP
  have hl := lv_entry ([.ref h0, .int p0, .null, .int (-1)]) (n := 8) (Nat.le_of_ble_eq_true rfl)
  rw [lg_entry_eq]
  generalize (lg_sl ([.ref h0, .int p0, .null, .int (-1)]) ++ List.replicate (8 - (lg_sl ([.ref h0, .int p0, .null, .int (-1)])).length) Slot.unset).toArray = ls at hl ⊢
  have hl : lv_has ls 8 [(0, .ref h0), (1, .int p0), (2, .null), (3, .int (-1))] := hl
  by_cases hq_1 : p0 ≤ 480
  · refine lv_aload_n hx hb dX3_runOn_0 rfl (lv_at hl 0 rfl) ?_
    refine va_get (D := (dC, dI)) (ci := 3) (v := .int 0) (C := RX3) (T := TX3) (N := 12) hx hb hts (fun _ hh => (List.mem_cons_of_mem _ (List.mem_append_right _ (List.mem_append_left _ hh)))) hown hK hP 0 rfl rfl 2 (by decide) (hts (.fieldLink RX3 9 "TypingPool$Floor" "now" "I") (List.mem_cons_of_mem _ (List.mem_append_left _ (List.mem_of_getElem? (i := 0) rfl)))) (fun _ h9 => h9) rfl dX3_runOn_1 ?_
    refine lv_iload_n hx hb dX3_runOn_4 rfl (lv_at hl 1 rfl) ?_
    refine lv_iadd hx hb dX3_runOn_5 ?_
    refine lq_top (v := p0) (Int32.zero_add _) ?_
    refine lv_istore (lv' := [(4, .int p0), (0, .ref h0), (1, .int p0), (2, .null), (3, .int (-1))]) hx hb dX3_runOn_6 hl (by decide) rfl (fun ls hl => ?_)
    refine lv_iconst (v := 0) hx hb dX3_runOn_8 (by decide) ?_
    refine lv_istore (lv' := [(5, .int 0), (4, .int p0), (0, .ref h0), (1, .int p0), (2, .null), (3, .int (-1))]) hx hb dX3_runOn_9 hl (by decide) rfl (fun ls hl => ?_)
    refine lv_iload hx hb dX3_runOn_11 (lv_at hl 0 rfl) ?_
    refine lv_iload_n hx hb dX3_runOn_13 rfl (lv_at hl 3 rfl) ?_
    refine lv_icmp_ge (tgt := 99) hx hb dX3_runOn_14 (by decide) (fun c_2 => ?_) (fun c_2 => ?_)
    · have hP9 := hP.sub (ws' := [(h0, .inr (3, [.ref bo, .ref c1, .int 0, .ref d0, .ref d1, .ref d2, .ref d3, .ref d4, .ref d5, .ref d6, .ref d7, .ref d8])), (bo, .inr (1, [.ref b0, .int 0, .ref b1, .int 0, .ref b2, .int 0, .ref b3, .int 0]))]) [0, 1] rfl
      have hD9 := hD.sub (ws' := [(h0, .inr (3, [.ref bo, .ref c1, .int 0, .ref d0, .ref d1, .ref d2, .ref d3, .ref d4, .ref d5, .ref d6, .ref d7, .ref d8])), (bo, .inr (1, [.ref b0, .int 0, .ref b1, .int 0, .ref b2, .int 0, .ref b3, .int 0]))]) [0, 1] (by decide) rfl
      have hK9 := hK.sub (tys' := []) [] rfl
      exact W.vret hx hb hr (fun t ht hW => ⟨⟨(), rfl, trivial, ⟨0, (i_anti h1 c_2), by rw [ht]; exact hP9, va_K.moved hW.alike hK9, hD9⟩⟩, hS.F ht⟩) hS.2.2 dX3_runOn_99
    · refine lv_aload_n hx hb dX3_runOn_17 rfl (lv_at hl 2 rfl) ?_
      refine va_get (D := (dC, dI)) (ci := 3) (v := .int 0) (C := RX3) (T := TX3) (N := 12) hx hb hts (fun _ hh => (List.mem_cons_of_mem _ (List.mem_append_right _ (List.mem_append_left _ hh)))) hown hK hP 0 rfl rfl 2 (by decide) (hts (.fieldLink RX3 9 "TypingPool$Floor" "now" "I") (List.mem_cons_of_mem _ (List.mem_append_left _ (List.mem_of_getElem? (i := 0) rfl)))) (fun _ h9 => h9) rfl dX3_runOn_18 ?_
      refine lv_iload hx hb dX3_runOn_21 (lv_at hl 1 rfl) ?_
      refine lv_icmp_ge (tgt := 99) hx hb dX3_runOn_23 (by decide) (fun c_3 => absurd c_3 c_2) (fun c_3 => ?_)
      refine lv_aload_n hx hb dX3_runOn_26 rfl (lv_at hl 2 rfl) ?_
      refine va_get (D := (dC, dI)) (ci := 3) (v := .ref bo) (C := RX3) (T := TX3) (N := 12) hx hb hts (fun _ hh => (List.mem_cons_of_mem _ (List.mem_append_right _ (List.mem_append_left _ hh)))) hown hK hP 0 rfl rfl 0 (by decide) (hts (.fieldLink RX3 43 "TypingPool$Floor" "book" "LTypingPool$Book;") (List.mem_cons_of_mem _ (List.mem_append_left _ (List.mem_of_getElem? (i := 1) rfl)))) (fun _ h9 => h9) rfl dX3_runOn_27 ?_
      refine lv_aload_n hx hb dX3_runOn_30 rfl (lv_at hl 2 rfl) ?_
      refine va_get (D := (dC, dI)) (ci := 3) (v := .int 0) (C := RX3) (T := TX3) (N := 12) hx hb hts (fun _ hh => (List.mem_cons_of_mem _ (List.mem_append_right _ (List.mem_append_left _ hh)))) hown hK hP 0 rfl rfl 2 (by decide) (hts (.fieldLink RX3 9 "TypingPool$Floor" "now" "I") (List.mem_cons_of_mem _ (List.mem_append_left _ (List.mem_of_getElem? (i := 0) rfl)))) (fun _ h9 => h9) rfl dX3_runOn_31 ?_
      have hPc := hP.sub (ws' := [(bo, .inr (1, [.ref b0, .int 0, .ref b1, .int 0, .ref b2, .int 0, .ref b3, .int 0]))]) [1] rfl
      have hDc := hD.sub (ws' := [(bo, .inr (1, [.ref b0, .int 0, .ref b1, .int 0, .ref b2, .int 0, .ref b3, .int 0]))]) [1] (by decide) rfl
      have hKc := hK.sub (tys' := []) [] rfl
      have hFc := va_free (wc := [(bo, .inr (1, [.ref b0, .int 0, .ref b1, .int 0, .ref b2, .int 0, .ref b3, .int 0]))]) hD hS hA [1] rfl
      refine va_calli (va_runV (As := [.int 0]) (rest := []) ⟨hx, hb, hml, hown, hts⟩ (c_awayMask0 l dC dI ad av s.heap.size bo b0 b1 b2 b3 0 ) (cwV 1 hts (gi_4 (List.mem_cons_of_mem _ (List.mem_append_left _ (List.mem_of_getElem? (i := 2) rfl))) (List.mem_cons_of_mem _ (List.mem_append_left _ (List.mem_of_getElem? (i := 3) rfl))) (List.mem_cons_of_mem _ (List.mem_append_left _ (List.mem_of_getElem? (i := 4) rfl))) (List.mem_cons_of_mem _ (List.mem_append_left _ (List.mem_of_getElem? (i := 5) rfl))) (fun _ hh => (List.mem_cons_of_mem _ (List.mem_append_right _ (List.mem_append_right _ (List.mem_append_left _ hh))))) gd_c_awayMask0) rfl rfl rfl (by decide +kernel) ⟨Nat.le_of_ble_eq_true rfl, Nat.le_of_ble_eq_true rfl⟩) ⟨pr_blind, va_recv hKc hPc (ci := 1) (q0 := 0) rfl rfl, pr_use hPc hKc hDc hFc hS hM⟩ rfl rfl hl.1 rfl (lv_room (Nat.le_of_ble_eq_true rfl)) dX3_runOn_34 ⟨Nat.le_of_ble_eq_true rfl, Nat.le_of_ble_eq_true rfl⟩) hS (fun q _ h => hFc q h) hFc (fun r_4 u t H locs ht hvm hw hB hz1 hk1 hS => ?_)
      refine W.widen (k := 0) (n := 0) (Nat.le_of_ble_eq_true rfl) (Nat.le_of_ble_eq_true rfl) ?_
      subst hw
      obtain ⟨hre_5, hP1, hK1, hD1⟩ := hB
      refine lq_top (v := 0) hre_5 ?_
      rw [ht] at hP1
      have hK1 := va_K.moved hvm.symm hK1
      obtain ⟨hP, hD⟩ := va_join (wr := [(h0, .inr (3, [.ref bo, .ref c1, .int 0, .ref d0, .ref d1, .ref d2, .ref d3, .ref d4, .ref d5, .ref d6, .ref d7, .ref d8]))]) (w1 := [(bo, .inr (1, [.ref b0, .int 0, .ref b1, .int 0, .ref b2, .int 0, .ref b3, .int 0]))]) hP hD [1] [0] rfl rfl (by decide) (by decide) hk1 hFc hP1 hD1
      have hK := (hK.sub (tys' := []) [] rfl).app hK1
      have hP : va_P (dC, dI) vwCl [(h0, .inr (3, [.ref bo, .ref c1, .int 0, .ref d0, .ref d1, .ref d2, .ref d3, .ref d4, .ref d5, .ref d6, .ref d7, .ref d8])), (bo, .inr (1, [.ref b0, .int 0, .ref b1, .int 0, .ref b2, .int 0, .ref b3, .int 0]))] H := hP
      have hD : va_D A [(h0, .inr (3, [.ref bo, .ref c1, .int 0, .ref d0, .ref d1, .ref d2, .ref d3, .ref d4, .ref d5, .ref d6, .ref d7, .ref d8])), (bo, .inr (1, [.ref b0, .int 0, .ref b1, .int 0, .ref b2, .int 0, .ref b3, .int 0]))] := hD
      have hK : va_K (dC, dI) vwCl [] s := hK
      refine lv_iload_n hx hb dX3_runOn_37 rfl (lv_at hl 5 rfl) ?_
      refine lv_iconst (v := (-1)) hx hb dX3_runOn_38 (by decide) ?_
      refine lv_icmp_ne (tgt := 46) hx hb dX3_runOn_39 (by decide) (fun c_6 => absurd c_6 (fun z => z (by decide))) (fun c_6 => ?_)
      refine lv_iconst (v := 0) hx hb dX3_runOn_42 (by decide) ?_
      refine lv_goto (tgt := 49) hx hb dX3_runOn_43 (by decide) ?_
      refine lv_ior hx hb dX3_runOn_49 ?_
      refine lq_top (v := 0) (by decide) ?_
      refine lv_istore (lv' := [(6, .int 0), (5, .int 0), (4, .int p0), (0, .ref h0), (1, .int p0), (2, .null), (3, .int (-1))]) hx hb dX3_runOn_50 hl (by decide) rfl (fun ls hl => ?_)
      refine lv_aload_n hx hb dX3_runOn_52 rfl (lv_at hl 3 rfl) ?_
      refine lv_iload hx hb dX3_runOn_53 (lv_at hl 0 rfl) ?_
      refine lv_aload_nN hx hb dX3_runOn_55 rfl (lv_at hl 5 rfl) ?_
      have hPc := hP.sub (ws' := [(h0, .inr (3, [.ref bo, .ref c1, .int 0, .ref d0, .ref d1, .ref d2, .ref d3, .ref d4, .ref d5, .ref d6, .ref d7, .ref d8])), (bo, .inr (1, [.ref b0, .int 0, .ref b1, .int 0, .ref b2, .int 0, .ref b3, .int 0]))]) [0, 1] rfl
      have hDc := hD.sub (ws' := [(h0, .inr (3, [.ref bo, .ref c1, .int 0, .ref d0, .ref d1, .ref d2, .ref d3, .ref d4, .ref d5, .ref d6, .ref d7, .ref d8])), (bo, .inr (1, [.ref b0, .int 0, .ref b1, .int 0, .ref b2, .int 0, .ref b3, .int 0]))]) [0, 1] (by decide) rfl
      have hKc := hK.sub (tys' := []) [] rfl
      have hFc := va_free (wc := [(h0, .inr (3, [.ref bo, .ref c1, .int 0, .ref d0, .ref d1, .ref d2, .ref d3, .ref d4, .ref d5, .ref d6, .ref d7, .ref d8])), (bo, .inr (1, [.ref b0, .int 0, .ref b1, .int 0, .ref b2, .int 0, .ref b3, .int 0]))]) hD hS hA [0, 1] rfl
      refine va_callv (va_runV (As := [.int 0, .null]) (rest := []) ⟨hx, hb, hml, hown, hts⟩ (c_takeAll0 l dC dI ad av H.size h0 bo c1 d0 d1 d2 d3 d4 d5 d6 d7 d8 b0 b1 b2 b3 0 0 ) (cwV 2 hts (gi_4 (List.mem_cons_of_mem _ (List.mem_append_left _ (List.mem_of_getElem? (i := 6) rfl))) (List.mem_cons_of_mem _ (List.mem_append_left _ (List.mem_of_getElem? (i := 7) rfl))) (List.mem_cons_of_mem _ (List.mem_append_left _ (List.mem_of_getElem? (i := 8) rfl))) (List.mem_cons_of_mem _ (List.mem_append_left _ (List.mem_of_getElem? (i := 9) rfl))) (fun _ hh => (List.mem_cons_of_mem _ (List.mem_append_right _ (List.mem_append_right _ (List.mem_append_right _ (List.mem_append_left _ hh)))))) gd_c_takeAll0) rfl rfl rfl (by decide +kernel) ⟨Nat.le_of_ble_eq_true rfl, Nat.le_of_ble_eq_true rfl⟩) ⟨pr_blind, va_recv hKc hPc (ci := 3) (q0 := 0) rfl rfl, pr_use hPc hKc hDc hFc hS hM⟩ rfl rfl hl.1 rfl (lv_room (Nat.le_of_ble_eq_true rfl)) dX3_runOn_56 ⟨Nat.le_of_ble_eq_true rfl, Nat.le_of_ble_eq_true rfl⟩) hS (fun q _ h => hFc q h) hFc (fun u t H locs ht hvm hw hB hz1 hk1 hS => ?_)
      refine W.widen (k := 0) (n := 0) (Nat.le_of_ble_eq_true rfl) (Nat.le_of_ble_eq_true rfl) ?_
      obtain ⟨hP1, hK1, hD1⟩ := hB
      rw [ht] at hP1
      have hK1 := va_K.moved hvm.symm hK1
      obtain ⟨hP, hD⟩ := va_join (wr := []) (w1 := [(h0, .inr (3, [.ref bo, .ref c1, .int 0, .ref d0, .ref d1, .ref d2, .ref d3, .ref d4, .ref d5, .ref d6, .ref d7, .ref d8])), (bo, .inr (1, [.ref b0, .int 0, .ref b1, .int 0, .ref b2, .int 0, .ref b3, .int 0]))]) hP hD [0, 1] [] rfl rfl (by decide) (by decide) hk1 hFc hP1 hD1
      have hK := (hK.sub (tys' := []) [] rfl).app hK1
      have hP : va_P (dC, dI) vwCl [(h0, .inr (3, [.ref bo, .ref c1, .int 0, .ref d0, .ref d1, .ref d2, .ref d3, .ref d4, .ref d5, .ref d6, .ref d7, .ref d8])), (bo, .inr (1, [.ref b0, .int 0, .ref b1, .int 0, .ref b2, .int 0, .ref b3, .int 0]))] H := hP
      have hD : va_D A [(h0, .inr (3, [.ref bo, .ref c1, .int 0, .ref d0, .ref d1, .ref d2, .ref d3, .ref d4, .ref d5, .ref d6, .ref d7, .ref d8])), (bo, .inr (1, [.ref b0, .int 0, .ref b1, .int 0, .ref b2, .int 0, .ref b3, .int 0]))] := hD
      have hK : va_K (dC, dI) vwCl [] s := hK
      refine lv_aload_n hx hb dX3_runOn_59 rfl (lv_at hl 3 rfl) ?_
      refine lv_iload hx hb dX3_runOn_60 (lv_at hl 0 rfl) ?_
      refine lv_iload hx hb dX3_runOn_62 (lv_at hl 2 rfl) ?_
      have hPc := hP.sub (ws' := [(h0, .inr (3, [.ref bo, .ref c1, .int 0, .ref d0, .ref d1, .ref d2, .ref d3, .ref d4, .ref d5, .ref d6, .ref d7, .ref d8])), (bo, .inr (1, [.ref b0, .int 0, .ref b1, .int 0, .ref b2, .int 0, .ref b3, .int 0]))]) [0, 1] rfl
      have hDc := hD.sub (ws' := [(h0, .inr (3, [.ref bo, .ref c1, .int 0, .ref d0, .ref d1, .ref d2, .ref d3, .ref d4, .ref d5, .ref d6, .ref d7, .ref d8])), (bo, .inr (1, [.ref b0, .int 0, .ref b1, .int 0, .ref b2, .int 0, .ref b3, .int 0]))]) [0, 1] (by decide) rfl
      have hKc := hK.sub (tys' := []) [] rfl
      have hFc := va_free (wc := [(h0, .inr (3, [.ref bo, .ref c1, .int 0, .ref d0, .ref d1, .ref d2, .ref d3, .ref d4, .ref d5, .ref d6, .ref d7, .ref d8])), (bo, .inr (1, [.ref b0, .int 0, .ref b1, .int 0, .ref b2, .int 0, .ref b3, .int 0]))]) hD hS hA [0, 1] rfl
      refine va_calli (va_runV (As := [.int 0, .int p0]) (rest := []) ⟨hx, hb, hml, hown, hts⟩ (c_changeFrom0a l dC dI ad av H.size h0 bo c1 d0 d1 d2 d3 d4 d5 d6 d7 d8 b0 b1 b2 b3 0 p0 hq_1) (cwV 2 hts (gi_4 (List.mem_cons_of_mem _ (List.mem_append_left _ (List.mem_of_getElem? (i := 10) rfl))) (List.mem_cons_of_mem _ (List.mem_append_left _ (List.mem_of_getElem? (i := 11) rfl))) (List.mem_cons_of_mem _ (List.mem_append_left _ (List.mem_of_getElem? (i := 12) rfl))) (List.mem_cons_of_mem _ (List.mem_append_left _ (List.mem_of_getElem? (i := 9) rfl))) (fun _ hh => (List.mem_cons_of_mem _ (List.mem_append_right _ (List.mem_append_right _ (List.mem_append_right _ (List.mem_append_right _ (List.mem_append_left _ hh))))))) gd_c_changeFrom0a) rfl rfl rfl (by decide +kernel) ⟨Nat.le_of_ble_eq_true rfl, Nat.le_of_ble_eq_true rfl⟩) ⟨pr_blind, va_recv hKc hPc (ci := 3) (q0 := 0) rfl rfl, pr_use hPc hKc hDc hFc hS hM⟩ rfl rfl hl.1 rfl (lv_room (Nat.le_of_ble_eq_true rfl)) dX3_runOn_64 ⟨Nat.le_of_ble_eq_true rfl, Nat.le_of_ble_eq_true rfl⟩) hS (fun q _ h => hFc q h) hFc (fun r_9 u t H locs ht hvm hw hB hz1 hk1 hS => ?_)
      refine W.widen (k := 0) (n := 0) (Nat.le_of_ble_eq_true rfl) (Nat.le_of_ble_eq_true rfl) ?_
      subst hw
      obtain ⟨hre_10, hP1, hK1, hD1⟩ := hB
      refine lq_top (v := p0) hre_10 ?_
      rw [ht] at hP1
      have hK1 := va_K.moved hvm.symm hK1
      obtain ⟨hP, hD⟩ := va_join (wr := []) (w1 := [(h0, .inr (3, [.ref bo, .ref c1, .int 0, .ref d0, .ref d1, .ref d2, .ref d3, .ref d4, .ref d5, .ref d6, .ref d7, .ref d8])), (bo, .inr (1, [.ref b0, .int 0, .ref b1, .int 0, .ref b2, .int 0, .ref b3, .int 0]))]) hP hD [0, 1] [] rfl rfl (by decide) (by decide) hk1 hFc hP1 hD1
      have hK := (hK.sub (tys' := []) [] rfl).app hK1
      have hP : va_P (dC, dI) vwCl [(h0, .inr (3, [.ref bo, .ref c1, .int 0, .ref d0, .ref d1, .ref d2, .ref d3, .ref d4, .ref d5, .ref d6, .ref d7, .ref d8])), (bo, .inr (1, [.ref b0, .int 0, .ref b1, .int 0, .ref b2, .int 0, .ref b3, .int 0]))] H := hP
      have hD : va_D A [(h0, .inr (3, [.ref bo, .ref c1, .int 0, .ref d0, .ref d1, .ref d2, .ref d3, .ref d4, .ref d5, .ref d6, .ref d7, .ref d8])), (bo, .inr (1, [.ref b0, .int 0, .ref b1, .int 0, .ref b2, .int 0, .ref b3, .int 0]))] := hD
      have hK : va_K (dC, dI) vwCl [] s := hK
      refine lv_aload_n hx hb dX3_runOn_67 rfl (lv_at hl 3 rfl) ?_
      refine va_get (D := (dC, dI)) (ci := 3) (v := .int 0) (C := RX3) (T := TX3) (N := 12) hx hb hts (fun _ hh => (List.mem_cons_of_mem _ (List.mem_append_right _ (List.mem_append_left _ hh)))) hown hK hP 0 rfl rfl 2 (by decide) (hts (.fieldLink RX3 9 "TypingPool$Floor" "now" "I") (List.mem_cons_of_mem _ (List.mem_append_left _ (List.mem_of_getElem? (i := 0) rfl)))) (fun _ h9 => h9) rfl dX3_runOn_68 ?_
      refine lv_isub hx hb dX3_runOn_71 ?_
      refine lq_top (v := p0) (Int32.sub_zero _) ?_
      refine lv_istore (lv' := [(7, .int p0), (6, .int 0), (5, .int 0), (4, .int p0), (0, .ref h0), (1, .int p0), (2, .null), (3, .int (-1))]) hx hb dX3_runOn_72 hl (by decide) rfl (fun ls hl => ?_)
      refine lv_aload_n hx hb dX3_runOn_74 rfl (lv_at hl 4 rfl) ?_
      refine lv_iload hx hb dX3_runOn_75 (lv_at hl 1 rfl) ?_
      refine lv_iload hx hb dX3_runOn_77 (lv_at hl 0 rfl) ?_
      have hPc := hP.sub (ws' := [(h0, .inr (3, [.ref bo, .ref c1, .int 0, .ref d0, .ref d1, .ref d2, .ref d3, .ref d4, .ref d5, .ref d6, .ref d7, .ref d8])), (bo, .inr (1, [.ref b0, .int 0, .ref b1, .int 0, .ref b2, .int 0, .ref b3, .int 0]))]) [0, 1] rfl
      have hDc := hD.sub (ws' := [(h0, .inr (3, [.ref bo, .ref c1, .int 0, .ref d0, .ref d1, .ref d2, .ref d3, .ref d4, .ref d5, .ref d6, .ref d7, .ref d8])), (bo, .inr (1, [.ref b0, .int 0, .ref b1, .int 0, .ref b2, .int 0, .ref b3, .int 0]))]) [0, 1] (by decide) rfl
      have hKc := hK.sub (tys' := []) [] rfl
      have hFc := va_free (wc := [(h0, .inr (3, [.ref bo, .ref c1, .int 0, .ref d0, .ref d1, .ref d2, .ref d3, .ref d4, .ref d5, .ref d6, .ref d7, .ref d8])), (bo, .inr (1, [.ref b0, .int 0, .ref b1, .int 0, .ref b2, .int 0, .ref b3, .int 0]))]) hD hS hA [0, 1] rfl
      refine va_callv (va_runV (As := [.int 0, .int p0]) (rest := []) ⟨hx, hb, hml, hown, hts⟩ (c_workAll0 l dC dI ad av H.size h0 bo c1 d0 d1 d2 d3 d4 d5 d6 d7 d8 b0 b1 b2 b3 0 0 p0 ) (cwV 2 hts (gi_4 (List.mem_cons_of_mem _ (List.mem_append_left _ (List.mem_of_getElem? (i := 13) rfl))) (List.mem_cons_of_mem _ (List.mem_append_left _ (List.mem_of_getElem? (i := 14) rfl))) (List.mem_cons_of_mem _ (List.mem_append_left _ (List.mem_of_getElem? (i := 15) rfl))) (List.mem_cons_of_mem _ (List.mem_append_left _ (List.mem_of_getElem? (i := 9) rfl))) (fun _ hh => (List.mem_cons_of_mem _ (List.mem_append_right _ (List.mem_append_right _ (List.mem_append_right _ (List.mem_append_right _ (List.mem_append_right _ (List.mem_append_left _ hh)))))))) gd_c_workAll0) rfl rfl rfl (by decide +kernel) ⟨Nat.le_of_ble_eq_true rfl, Nat.le_of_ble_eq_true rfl⟩) ⟨pr_blind, va_recv hKc hPc (ci := 3) (q0 := 0) rfl rfl, pr_use hPc hKc hDc hFc hS hM⟩ rfl rfl hl.1 rfl (lv_room (Nat.le_of_ble_eq_true rfl)) dX3_runOn_79 ⟨Nat.le_of_ble_eq_true rfl, Nat.le_of_ble_eq_true rfl⟩) hS (fun q _ h => hFc q h) hFc (fun u t H locs ht hvm hw hB hz1 hk1 hS => ?_)
      refine W.widen (k := 0) (n := 0) (Nat.le_of_ble_eq_true rfl) (Nat.le_of_ble_eq_true rfl) ?_
      obtain ⟨hP1, hK1, hD1⟩ := hB
      rw [ht] at hP1
      have hK1 := va_K.moved hvm.symm hK1
      obtain ⟨hP, hD⟩ := va_join (wr := []) (w1 := [(h0, .inr (3, [.ref bo, .ref c1, .int 0, .ref d0, .ref d1, .ref d2, .ref d3, .ref d4, .ref d5, .ref d6, .ref d7, .ref d8])), (bo, .inr (1, [.ref b0, .int 0, .ref b1, .int 0, .ref b2, .int 0, .ref b3, .int 0]))]) hP hD [0, 1] [] rfl rfl (by decide) (by decide) hk1 hFc hP1 hD1
      have hK := (hK.sub (tys' := []) [] rfl).app hK1
      have hP : va_P (dC, dI) vwCl [(h0, .inr (3, [.ref bo, .ref c1, .int 0, .ref d0, .ref d1, .ref d2, .ref d3, .ref d4, .ref d5, .ref d6, .ref d7, .ref d8])), (bo, .inr (1, [.ref b0, .int 0, .ref b1, .int 0, .ref b2, .int 0, .ref b3, .int 0]))] H := hP
      have hD : va_D A [(h0, .inr (3, [.ref bo, .ref c1, .int 0, .ref d0, .ref d1, .ref d2, .ref d3, .ref d4, .ref d5, .ref d6, .ref d7, .ref d8])), (bo, .inr (1, [.ref b0, .int 0, .ref b1, .int 0, .ref b2, .int 0, .ref b3, .int 0]))] := hD
      have hK : va_K (dC, dI) vwCl [] s := hK
      refine lv_aload_n hx hb dX3_runOn_82 rfl (lv_at hl 4 rfl) ?_
      refine lv_dup hx hb dX3_runOn_83 rfl ?_
      refine va_get (D := (dC, dI)) (ci := 3) (v := .int 0) (C := RX3) (T := TX3) (N := 12) hx hb hts (fun _ hh => (List.mem_cons_of_mem _ (List.mem_append_right _ (List.mem_append_left _ hh)))) hown hK hP 0 rfl rfl 2 (by decide) (hts (.fieldLink RX3 9 "TypingPool$Floor" "now" "I") (List.mem_cons_of_mem _ (List.mem_append_left _ (List.mem_of_getElem? (i := 0) rfl)))) (fun _ h9 => h9) rfl dX3_runOn_84 ?_
      refine lv_iload hx hb dX3_runOn_87 (lv_at hl 0 rfl) ?_
      refine lv_iadd hx hb dX3_runOn_89 ?_
      refine lq_top (v := p0) (Int32.zero_add _) ?_
      refine va_put (D := (dC, dI)) (ci := 3) (v := .int p0) (ty := .int) (C := RX3) (T := TX3) (N := 12) hx hb hts (fun _ hh => (List.mem_cons_of_mem _ (List.mem_append_right _ (List.mem_append_left _ hh)))) tyX3 tyX3_ok nmX3 hown hK hP hD hS 0 rfl rfl 2 (by decide) (hts (.fieldLink RX3 9 "TypingPool$Floor" "now" "I") (List.mem_cons_of_mem _ (List.mem_append_left _ (List.mem_of_getElem? (i := 0) rfl)))) (fun _ h9 => h9) rfl (tyX3_ok 2 (by decide)) rfl rfl (Nat.le_of_ble_eq_true rfl) dX3_runOn_90 (fun H locs hP hD hS => ?_)
      have hP : va_P (dC, dI) vwCl [(h0, .inr (3, [.ref bo, .ref c1, .int p0, .ref d0, .ref d1, .ref d2, .ref d3, .ref d4, .ref d5, .ref d6, .ref d7, .ref d8])), (bo, .inr (1, [.ref b0, .int 0, .ref b1, .int 0, .ref b2, .int 0, .ref b3, .int 0]))] H := hP
      have hD : va_D A [(h0, .inr (3, [.ref bo, .ref c1, .int p0, .ref d0, .ref d1, .ref d2, .ref d3, .ref d4, .ref d5, .ref d6, .ref d7, .ref d8])), (bo, .inr (1, [.ref b0, .int 0, .ref b1, .int 0, .ref b2, .int 0, .ref b3, .int 0]))] := hD
      refine lv_iinc (v := 1) (lv' := [(5, .int 1), (7, .int p0), (6, .int 0), (4, .int p0), (0, .ref h0), (1, .int p0), (2, .null), (3, .int (-1))]) hx hb dX3_runOn_93 hl (k := 2) rfl (by decide) (by decide) rfl (fun ls hl => ?_)
      refine lv_goto (tgt := 11) hx hb dX3_runOn_96 (by decide) ?_
      refine lv_iload hx hb dX3_runOn_11 (lv_at hl 0 rfl) ?_
      refine lv_iload_n hx hb dX3_runOn_13 rfl (lv_at hl 5 rfl) ?_
      refine lv_icmp_ge (tgt := 99) hx hb dX3_runOn_14 (by decide) (fun c_13 => ?_) (fun c_13 => ?_)
      · have hP9 := hP.sub (ws' := [(h0, .inr (3, [.ref bo, .ref c1, .int p0, .ref d0, .ref d1, .ref d2, .ref d3, .ref d4, .ref d5, .ref d6, .ref d7, .ref d8])), (bo, .inr (1, [.ref b0, .int 0, .ref b1, .int 0, .ref b2, .int 0, .ref b3, .int 0]))]) [0, 1] rfl
        have hD9 := hD.sub (ws' := [(h0, .inr (3, [.ref bo, .ref c1, .int p0, .ref d0, .ref d1, .ref d2, .ref d3, .ref d4, .ref d5, .ref d6, .ref d7, .ref d8])), (bo, .inr (1, [.ref b0, .int 0, .ref b1, .int 0, .ref b2, .int 0, .ref b3, .int 0]))]) [0, 1] (by decide) rfl
        have hK9 := hK.sub (tys' := []) [] rfl
        exact W.vret hx hb hr (fun t ht hW => ⟨⟨(), rfl, trivial, ⟨p0, rfl, by rw [ht]; exact hP9, va_K.moved hW.alike hK9, hD9⟩⟩, hS.F ht⟩) hS.2.2 dX3_runOn_99
      · refine lv_aload_n hx hb dX3_runOn_17 rfl (lv_at hl 4 rfl) ?_
        refine va_get (D := (dC, dI)) (ci := 3) (v := .int p0) (C := RX3) (T := TX3) (N := 12) hx hb hts (fun _ hh => (List.mem_cons_of_mem _ (List.mem_append_right _ (List.mem_append_left _ hh)))) hown hK hP 0 rfl rfl 2 (by decide) (hts (.fieldLink RX3 9 "TypingPool$Floor" "now" "I") (List.mem_cons_of_mem _ (List.mem_append_left _ (List.mem_of_getElem? (i := 0) rfl)))) (fun _ h9 => h9) rfl dX3_runOn_18 ?_
        refine lv_iload hx hb dX3_runOn_21 (lv_at hl 3 rfl) ?_
        refine lv_icmp_ge (tgt := 99) hx hb dX3_runOn_23 (by decide) (fun c_14 => ?_) (fun c_14 => absurd c_14 (fun z => z (i_le_refl _)))
        have hP9 := hP.sub (ws' := [(h0, .inr (3, [.ref bo, .ref c1, .int p0, .ref d0, .ref d1, .ref d2, .ref d3, .ref d4, .ref d5, .ref d6, .ref d7, .ref d8])), (bo, .inr (1, [.ref b0, .int 0, .ref b1, .int 0, .ref b2, .int 0, .ref b3, .int 0]))]) [0, 1] rfl
        have hD9 := hD.sub (ws' := [(h0, .inr (3, [.ref bo, .ref c1, .int p0, .ref d0, .ref d1, .ref d2, .ref d3, .ref d4, .ref d5, .ref d6, .ref d7, .ref d8])), (bo, .inr (1, [.ref b0, .int 0, .ref b1, .int 0, .ref b2, .int 0, .ref b3, .int 0]))]) [0, 1] (by decide) rfl
        have hK9 := hK.sub (tys' := []) [] rfl
        exact W.vret hx hb hr (fun t ht hW => ⟨⟨(), rfl, trivial, ⟨p0, rfl, by rw [ht]; exact hP9, va_K.moved hW.alike hK9, hD9⟩⟩, hS.F ht⟩) hS.2.2 dX3_runOn_99
  · refine lv_aload_n hx hb dX3_runOn_0 rfl (lv_at hl 0 rfl) ?_
    refine va_get (D := (dC, dI)) (ci := 3) (v := .int 0) (C := RX3) (T := TX3) (N := 12) hx hb hts (fun _ hh => (List.mem_cons_of_mem _ (List.mem_append_right _ (List.mem_append_left _ hh)))) hown hK hP 0 rfl rfl 2 (by decide) (hts (.fieldLink RX3 9 "TypingPool$Floor" "now" "I") (List.mem_cons_of_mem _ (List.mem_append_left _ (List.mem_of_getElem? (i := 0) rfl)))) (fun _ h9 => h9) rfl dX3_runOn_1 ?_
    refine lv_iload_n hx hb dX3_runOn_4 rfl (lv_at hl 1 rfl) ?_
    refine lv_iadd hx hb dX3_runOn_5 ?_
    refine lq_top (v := p0) (Int32.zero_add _) ?_
    refine lv_istore (lv' := [(4, .int p0), (0, .ref h0), (1, .int p0), (2, .null), (3, .int (-1))]) hx hb dX3_runOn_6 hl (by decide) rfl (fun ls hl => ?_)
    refine lv_iconst (v := 0) hx hb dX3_runOn_8 (by decide) ?_
    refine lv_istore (lv' := [(5, .int 0), (4, .int p0), (0, .ref h0), (1, .int p0), (2, .null), (3, .int (-1))]) hx hb dX3_runOn_9 hl (by decide) rfl (fun ls hl => ?_)
    refine lv_iload hx hb dX3_runOn_11 (lv_at hl 0 rfl) ?_
    refine lv_iload_n hx hb dX3_runOn_13 rfl (lv_at hl 3 rfl) ?_
    refine lv_icmp_ge (tgt := 99) hx hb dX3_runOn_14 (by decide) (fun c_15 => absurd c_15 (i_gt_not (Int32.not_le.mp hq_1) (by decide))) (fun c_15 => ?_)
    refine lv_aload_n hx hb dX3_runOn_17 rfl (lv_at hl 2 rfl) ?_
    refine va_get (D := (dC, dI)) (ci := 3) (v := .int 0) (C := RX3) (T := TX3) (N := 12) hx hb hts (fun _ hh => (List.mem_cons_of_mem _ (List.mem_append_right _ (List.mem_append_left _ hh)))) hown hK hP 0 rfl rfl 2 (by decide) (hts (.fieldLink RX3 9 "TypingPool$Floor" "now" "I") (List.mem_cons_of_mem _ (List.mem_append_left _ (List.mem_of_getElem? (i := 0) rfl)))) (fun _ h9 => h9) rfl dX3_runOn_18 ?_
    refine lv_iload hx hb dX3_runOn_21 (lv_at hl 1 rfl) ?_
    refine lv_icmp_ge (tgt := 99) hx hb dX3_runOn_23 (by decide) (fun c_16 => absurd c_16 (i_gt_not (Int32.not_le.mp hq_1) (by decide))) (fun c_16 => ?_)
    refine lv_aload_n hx hb dX3_runOn_26 rfl (lv_at hl 2 rfl) ?_
    refine va_get (D := (dC, dI)) (ci := 3) (v := .ref bo) (C := RX3) (T := TX3) (N := 12) hx hb hts (fun _ hh => (List.mem_cons_of_mem _ (List.mem_append_right _ (List.mem_append_left _ hh)))) hown hK hP 0 rfl rfl 0 (by decide) (hts (.fieldLink RX3 43 "TypingPool$Floor" "book" "LTypingPool$Book;") (List.mem_cons_of_mem _ (List.mem_append_left _ (List.mem_of_getElem? (i := 1) rfl)))) (fun _ h9 => h9) rfl dX3_runOn_27 ?_
    refine lv_aload_n hx hb dX3_runOn_30 rfl (lv_at hl 2 rfl) ?_
    refine va_get (D := (dC, dI)) (ci := 3) (v := .int 0) (C := RX3) (T := TX3) (N := 12) hx hb hts (fun _ hh => (List.mem_cons_of_mem _ (List.mem_append_right _ (List.mem_append_left _ hh)))) hown hK hP 0 rfl rfl 2 (by decide) (hts (.fieldLink RX3 9 "TypingPool$Floor" "now" "I") (List.mem_cons_of_mem _ (List.mem_append_left _ (List.mem_of_getElem? (i := 0) rfl)))) (fun _ h9 => h9) rfl dX3_runOn_31 ?_
    have hPc := hP.sub (ws' := [(bo, .inr (1, [.ref b0, .int 0, .ref b1, .int 0, .ref b2, .int 0, .ref b3, .int 0]))]) [1] rfl
    have hDc := hD.sub (ws' := [(bo, .inr (1, [.ref b0, .int 0, .ref b1, .int 0, .ref b2, .int 0, .ref b3, .int 0]))]) [1] (by decide) rfl
    have hKc := hK.sub (tys' := []) [] rfl
    have hFc := va_free (wc := [(bo, .inr (1, [.ref b0, .int 0, .ref b1, .int 0, .ref b2, .int 0, .ref b3, .int 0]))]) hD hS hA [1] rfl
    refine va_calli (va_runV (As := [.int 0]) (rest := []) ⟨hx, hb, hml, hown, hts⟩ (c_awayMask0 l dC dI ad av s.heap.size bo b0 b1 b2 b3 0 ) (cwV 1 hts (gi_4 (List.mem_cons_of_mem _ (List.mem_append_left _ (List.mem_of_getElem? (i := 2) rfl))) (List.mem_cons_of_mem _ (List.mem_append_left _ (List.mem_of_getElem? (i := 3) rfl))) (List.mem_cons_of_mem _ (List.mem_append_left _ (List.mem_of_getElem? (i := 4) rfl))) (List.mem_cons_of_mem _ (List.mem_append_left _ (List.mem_of_getElem? (i := 5) rfl))) (fun _ hh => (List.mem_cons_of_mem _ (List.mem_append_right _ (List.mem_append_right _ (List.mem_append_left _ hh))))) gd_c_awayMask0) rfl rfl rfl (by decide +kernel) ⟨Nat.le_of_ble_eq_true rfl, Nat.le_of_ble_eq_true rfl⟩) ⟨pr_blind, va_recv hKc hPc (ci := 1) (q0 := 0) rfl rfl, pr_use hPc hKc hDc hFc hS hM⟩ rfl rfl hl.1 rfl (lv_room (Nat.le_of_ble_eq_true rfl)) dX3_runOn_34 ⟨Nat.le_of_ble_eq_true rfl, Nat.le_of_ble_eq_true rfl⟩) hS (fun q _ h => hFc q h) hFc (fun r_17 u t H locs ht hvm hw hB hz1 hk1 hS => ?_)
    refine W.widen (k := 0) (n := 0) (Nat.le_of_ble_eq_true rfl) (Nat.le_of_ble_eq_true rfl) ?_
    subst hw
    obtain ⟨hre_18, hP1, hK1, hD1⟩ := hB
    refine lq_top (v := 0) hre_18 ?_
    rw [ht] at hP1
    have hK1 := va_K.moved hvm.symm hK1
    obtain ⟨hP, hD⟩ := va_join (wr := [(h0, .inr (3, [.ref bo, .ref c1, .int 0, .ref d0, .ref d1, .ref d2, .ref d3, .ref d4, .ref d5, .ref d6, .ref d7, .ref d8]))]) (w1 := [(bo, .inr (1, [.ref b0, .int 0, .ref b1, .int 0, .ref b2, .int 0, .ref b3, .int 0]))]) hP hD [1] [0] rfl rfl (by decide) (by decide) hk1 hFc hP1 hD1
    have hK := (hK.sub (tys' := []) [] rfl).app hK1
    have hP : va_P (dC, dI) vwCl [(h0, .inr (3, [.ref bo, .ref c1, .int 0, .ref d0, .ref d1, .ref d2, .ref d3, .ref d4, .ref d5, .ref d6, .ref d7, .ref d8])), (bo, .inr (1, [.ref b0, .int 0, .ref b1, .int 0, .ref b2, .int 0, .ref b3, .int 0]))] H := hP
    have hD : va_D A [(h0, .inr (3, [.ref bo, .ref c1, .int 0, .ref d0, .ref d1, .ref d2, .ref d3, .ref d4, .ref d5, .ref d6, .ref d7, .ref d8])), (bo, .inr (1, [.ref b0, .int 0, .ref b1, .int 0, .ref b2, .int 0, .ref b3, .int 0]))] := hD
    have hK : va_K (dC, dI) vwCl [] s := hK
    refine lv_iload_n hx hb dX3_runOn_37 rfl (lv_at hl 5 rfl) ?_
    refine lv_iconst (v := (-1)) hx hb dX3_runOn_38 (by decide) ?_
    refine lv_icmp_ne (tgt := 46) hx hb dX3_runOn_39 (by decide) (fun c_19 => absurd c_19 (fun z => z (by decide))) (fun c_19 => ?_)
    refine lv_iconst (v := 0) hx hb dX3_runOn_42 (by decide) ?_
    refine lv_goto (tgt := 49) hx hb dX3_runOn_43 (by decide) ?_
    refine lv_ior hx hb dX3_runOn_49 ?_
    refine lq_top (v := 0) (by decide) ?_
    refine lv_istore (lv' := [(6, .int 0), (5, .int 0), (4, .int p0), (0, .ref h0), (1, .int p0), (2, .null), (3, .int (-1))]) hx hb dX3_runOn_50 hl (by decide) rfl (fun ls hl => ?_)
    refine lv_aload_n hx hb dX3_runOn_52 rfl (lv_at hl 3 rfl) ?_
    refine lv_iload hx hb dX3_runOn_53 (lv_at hl 0 rfl) ?_
    refine lv_aload_nN hx hb dX3_runOn_55 rfl (lv_at hl 5 rfl) ?_
    have hPc := hP.sub (ws' := [(h0, .inr (3, [.ref bo, .ref c1, .int 0, .ref d0, .ref d1, .ref d2, .ref d3, .ref d4, .ref d5, .ref d6, .ref d7, .ref d8])), (bo, .inr (1, [.ref b0, .int 0, .ref b1, .int 0, .ref b2, .int 0, .ref b3, .int 0]))]) [0, 1] rfl
    have hDc := hD.sub (ws' := [(h0, .inr (3, [.ref bo, .ref c1, .int 0, .ref d0, .ref d1, .ref d2, .ref d3, .ref d4, .ref d5, .ref d6, .ref d7, .ref d8])), (bo, .inr (1, [.ref b0, .int 0, .ref b1, .int 0, .ref b2, .int 0, .ref b3, .int 0]))]) [0, 1] (by decide) rfl
    have hKc := hK.sub (tys' := []) [] rfl
    have hFc := va_free (wc := [(h0, .inr (3, [.ref bo, .ref c1, .int 0, .ref d0, .ref d1, .ref d2, .ref d3, .ref d4, .ref d5, .ref d6, .ref d7, .ref d8])), (bo, .inr (1, [.ref b0, .int 0, .ref b1, .int 0, .ref b2, .int 0, .ref b3, .int 0]))]) hD hS hA [0, 1] rfl
    refine va_callv (va_runV (As := [.int 0, .null]) (rest := []) ⟨hx, hb, hml, hown, hts⟩ (c_takeAll0 l dC dI ad av H.size h0 bo c1 d0 d1 d2 d3 d4 d5 d6 d7 d8 b0 b1 b2 b3 0 0 ) (cwV 2 hts (gi_4 (List.mem_cons_of_mem _ (List.mem_append_left _ (List.mem_of_getElem? (i := 6) rfl))) (List.mem_cons_of_mem _ (List.mem_append_left _ (List.mem_of_getElem? (i := 7) rfl))) (List.mem_cons_of_mem _ (List.mem_append_left _ (List.mem_of_getElem? (i := 8) rfl))) (List.mem_cons_of_mem _ (List.mem_append_left _ (List.mem_of_getElem? (i := 9) rfl))) (fun _ hh => (List.mem_cons_of_mem _ (List.mem_append_right _ (List.mem_append_right _ (List.mem_append_right _ (List.mem_append_left _ hh)))))) gd_c_takeAll0) rfl rfl rfl (by decide +kernel) ⟨Nat.le_of_ble_eq_true rfl, Nat.le_of_ble_eq_true rfl⟩) ⟨pr_blind, va_recv hKc hPc (ci := 3) (q0 := 0) rfl rfl, pr_use hPc hKc hDc hFc hS hM⟩ rfl rfl hl.1 rfl (lv_room (Nat.le_of_ble_eq_true rfl)) dX3_runOn_56 ⟨Nat.le_of_ble_eq_true rfl, Nat.le_of_ble_eq_true rfl⟩) hS (fun q _ h => hFc q h) hFc (fun u t H locs ht hvm hw hB hz1 hk1 hS => ?_)
    refine W.widen (k := 0) (n := 0) (Nat.le_of_ble_eq_true rfl) (Nat.le_of_ble_eq_true rfl) ?_
    obtain ⟨hP1, hK1, hD1⟩ := hB
    rw [ht] at hP1
    have hK1 := va_K.moved hvm.symm hK1
    obtain ⟨hP, hD⟩ := va_join (wr := []) (w1 := [(h0, .inr (3, [.ref bo, .ref c1, .int 0, .ref d0, .ref d1, .ref d2, .ref d3, .ref d4, .ref d5, .ref d6, .ref d7, .ref d8])), (bo, .inr (1, [.ref b0, .int 0, .ref b1, .int 0, .ref b2, .int 0, .ref b3, .int 0]))]) hP hD [0, 1] [] rfl rfl (by decide) (by decide) hk1 hFc hP1 hD1
    have hK := (hK.sub (tys' := []) [] rfl).app hK1
    have hP : va_P (dC, dI) vwCl [(h0, .inr (3, [.ref bo, .ref c1, .int 0, .ref d0, .ref d1, .ref d2, .ref d3, .ref d4, .ref d5, .ref d6, .ref d7, .ref d8])), (bo, .inr (1, [.ref b0, .int 0, .ref b1, .int 0, .ref b2, .int 0, .ref b3, .int 0]))] H := hP
    have hD : va_D A [(h0, .inr (3, [.ref bo, .ref c1, .int 0, .ref d0, .ref d1, .ref d2, .ref d3, .ref d4, .ref d5, .ref d6, .ref d7, .ref d8])), (bo, .inr (1, [.ref b0, .int 0, .ref b1, .int 0, .ref b2, .int 0, .ref b3, .int 0]))] := hD
    have hK : va_K (dC, dI) vwCl [] s := hK
    refine lv_aload_n hx hb dX3_runOn_59 rfl (lv_at hl 3 rfl) ?_
    refine lv_iload hx hb dX3_runOn_60 (lv_at hl 0 rfl) ?_
    refine lv_iload hx hb dX3_runOn_62 (lv_at hl 2 rfl) ?_
    have hPc := hP.sub (ws' := [(h0, .inr (3, [.ref bo, .ref c1, .int 0, .ref d0, .ref d1, .ref d2, .ref d3, .ref d4, .ref d5, .ref d6, .ref d7, .ref d8])), (bo, .inr (1, [.ref b0, .int 0, .ref b1, .int 0, .ref b2, .int 0, .ref b3, .int 0]))]) [0, 1] rfl
    have hDc := hD.sub (ws' := [(h0, .inr (3, [.ref bo, .ref c1, .int 0, .ref d0, .ref d1, .ref d2, .ref d3, .ref d4, .ref d5, .ref d6, .ref d7, .ref d8])), (bo, .inr (1, [.ref b0, .int 0, .ref b1, .int 0, .ref b2, .int 0, .ref b3, .int 0]))]) [0, 1] (by decide) rfl
    have hKc := hK.sub (tys' := []) [] rfl
    have hFc := va_free (wc := [(h0, .inr (3, [.ref bo, .ref c1, .int 0, .ref d0, .ref d1, .ref d2, .ref d3, .ref d4, .ref d5, .ref d6, .ref d7, .ref d8])), (bo, .inr (1, [.ref b0, .int 0, .ref b1, .int 0, .ref b2, .int 0, .ref b3, .int 0]))]) hD hS hA [0, 1] rfl
    refine va_calli (va_runV (As := [.int 0, .int p0]) (rest := []) ⟨hx, hb, hml, hown, hts⟩ (c_changeFrom0b l dC dI ad av H.size h0 bo c1 d0 d1 d2 d3 d4 d5 d6 d7 d8 b0 b1 b2 b3 0 p0 (Int32.not_le.mp hq_1)) (cwV 2 hts (gi_4 (List.mem_cons_of_mem _ (List.mem_append_left _ (List.mem_of_getElem? (i := 10) rfl))) (List.mem_cons_of_mem _ (List.mem_append_left _ (List.mem_of_getElem? (i := 11) rfl))) (List.mem_cons_of_mem _ (List.mem_append_left _ (List.mem_of_getElem? (i := 12) rfl))) (List.mem_cons_of_mem _ (List.mem_append_left _ (List.mem_of_getElem? (i := 9) rfl))) (fun _ hh => (List.mem_cons_of_mem _ (List.mem_append_right _ (List.mem_append_right _ (List.mem_append_right _ (List.mem_append_right _ (List.mem_append_right _ (List.mem_append_right _ (List.mem_append_left _ hh))))))))) gd_c_changeFrom0b) rfl rfl rfl (by decide +kernel) ⟨Nat.le_of_ble_eq_true rfl, Nat.le_of_ble_eq_true rfl⟩) ⟨pr_blind, va_recv hKc hPc (ci := 3) (q0 := 0) rfl rfl, pr_use hPc hKc hDc hFc hS hM⟩ rfl rfl hl.1 rfl (lv_room (Nat.le_of_ble_eq_true rfl)) dX3_runOn_64 ⟨Nat.le_of_ble_eq_true rfl, Nat.le_of_ble_eq_true rfl⟩) hS (fun q _ h => hFc q h) hFc (fun r_22 u t H locs ht hvm hw hB hz1 hk1 hS => ?_)
    refine W.widen (k := 0) (n := 0) (Nat.le_of_ble_eq_true rfl) (Nat.le_of_ble_eq_true rfl) ?_
    subst hw
    obtain ⟨hre_23, hP1, hK1, hD1⟩ := hB
    refine lq_top (v := 480) hre_23 ?_
    rw [ht] at hP1
    have hK1 := va_K.moved hvm.symm hK1
    obtain ⟨hP, hD⟩ := va_join (wr := []) (w1 := [(h0, .inr (3, [.ref bo, .ref c1, .int 0, .ref d0, .ref d1, .ref d2, .ref d3, .ref d4, .ref d5, .ref d6, .ref d7, .ref d8])), (bo, .inr (1, [.ref b0, .int 0, .ref b1, .int 0, .ref b2, .int 0, .ref b3, .int 0]))]) hP hD [0, 1] [] rfl rfl (by decide) (by decide) hk1 hFc hP1 hD1
    have hK := (hK.sub (tys' := []) [] rfl).app hK1
    have hP : va_P (dC, dI) vwCl [(h0, .inr (3, [.ref bo, .ref c1, .int 0, .ref d0, .ref d1, .ref d2, .ref d3, .ref d4, .ref d5, .ref d6, .ref d7, .ref d8])), (bo, .inr (1, [.ref b0, .int 0, .ref b1, .int 0, .ref b2, .int 0, .ref b3, .int 0]))] H := hP
    have hD : va_D A [(h0, .inr (3, [.ref bo, .ref c1, .int 0, .ref d0, .ref d1, .ref d2, .ref d3, .ref d4, .ref d5, .ref d6, .ref d7, .ref d8])), (bo, .inr (1, [.ref b0, .int 0, .ref b1, .int 0, .ref b2, .int 0, .ref b3, .int 0]))] := hD
    have hK : va_K (dC, dI) vwCl [] s := hK
    refine lv_aload_n hx hb dX3_runOn_67 rfl (lv_at hl 3 rfl) ?_
    refine va_get (D := (dC, dI)) (ci := 3) (v := .int 0) (C := RX3) (T := TX3) (N := 12) hx hb hts (fun _ hh => (List.mem_cons_of_mem _ (List.mem_append_right _ (List.mem_append_left _ hh)))) hown hK hP 0 rfl rfl 2 (by decide) (hts (.fieldLink RX3 9 "TypingPool$Floor" "now" "I") (List.mem_cons_of_mem _ (List.mem_append_left _ (List.mem_of_getElem? (i := 0) rfl)))) (fun _ h9 => h9) rfl dX3_runOn_68 ?_
    refine lv_isub hx hb dX3_runOn_71 ?_
    refine lq_top (v := 480) (Int32.sub_zero _) ?_
    refine lv_istore (lv' := [(7, .int 480), (6, .int 0), (5, .int 0), (4, .int p0), (0, .ref h0), (1, .int p0), (2, .null), (3, .int (-1))]) hx hb dX3_runOn_72 hl (by decide) rfl (fun ls hl => ?_)
    refine lv_aload_n hx hb dX3_runOn_74 rfl (lv_at hl 4 rfl) ?_
    refine lv_iload hx hb dX3_runOn_75 (lv_at hl 1 rfl) ?_
    refine lv_iload hx hb dX3_runOn_77 (lv_at hl 0 rfl) ?_
    have hPc := hP.sub (ws' := [(h0, .inr (3, [.ref bo, .ref c1, .int 0, .ref d0, .ref d1, .ref d2, .ref d3, .ref d4, .ref d5, .ref d6, .ref d7, .ref d8])), (bo, .inr (1, [.ref b0, .int 0, .ref b1, .int 0, .ref b2, .int 0, .ref b3, .int 0]))]) [0, 1] rfl
    have hDc := hD.sub (ws' := [(h0, .inr (3, [.ref bo, .ref c1, .int 0, .ref d0, .ref d1, .ref d2, .ref d3, .ref d4, .ref d5, .ref d6, .ref d7, .ref d8])), (bo, .inr (1, [.ref b0, .int 0, .ref b1, .int 0, .ref b2, .int 0, .ref b3, .int 0]))]) [0, 1] (by decide) rfl
    have hKc := hK.sub (tys' := []) [] rfl
    have hFc := va_free (wc := [(h0, .inr (3, [.ref bo, .ref c1, .int 0, .ref d0, .ref d1, .ref d2, .ref d3, .ref d4, .ref d5, .ref d6, .ref d7, .ref d8])), (bo, .inr (1, [.ref b0, .int 0, .ref b1, .int 0, .ref b2, .int 0, .ref b3, .int 0]))]) hD hS hA [0, 1] rfl
    refine va_callv (va_runV (As := [.int 0, .int 480]) (rest := []) ⟨hx, hb, hml, hown, hts⟩ (c_workAll0 l dC dI ad av H.size h0 bo c1 d0 d1 d2 d3 d4 d5 d6 d7 d8 b0 b1 b2 b3 0 0 480 ) (cwV 2 hts (gi_4 (List.mem_cons_of_mem _ (List.mem_append_left _ (List.mem_of_getElem? (i := 13) rfl))) (List.mem_cons_of_mem _ (List.mem_append_left _ (List.mem_of_getElem? (i := 14) rfl))) (List.mem_cons_of_mem _ (List.mem_append_left _ (List.mem_of_getElem? (i := 15) rfl))) (List.mem_cons_of_mem _ (List.mem_append_left _ (List.mem_of_getElem? (i := 9) rfl))) (fun _ hh => (List.mem_cons_of_mem _ (List.mem_append_right _ (List.mem_append_right _ (List.mem_append_right _ (List.mem_append_right _ (List.mem_append_right _ (List.mem_append_left _ hh)))))))) gd_c_workAll0) rfl rfl rfl (by decide +kernel) ⟨Nat.le_of_ble_eq_true rfl, Nat.le_of_ble_eq_true rfl⟩) ⟨pr_blind, va_recv hKc hPc (ci := 3) (q0 := 0) rfl rfl, pr_use hPc hKc hDc hFc hS hM⟩ rfl rfl hl.1 rfl (lv_room (Nat.le_of_ble_eq_true rfl)) dX3_runOn_79 ⟨Nat.le_of_ble_eq_true rfl, Nat.le_of_ble_eq_true rfl⟩) hS (fun q _ h => hFc q h) hFc (fun u t H locs ht hvm hw hB hz1 hk1 hS => ?_)
    refine W.widen (k := 0) (n := 0) (Nat.le_of_ble_eq_true rfl) (Nat.le_of_ble_eq_true rfl) ?_
    obtain ⟨hP1, hK1, hD1⟩ := hB
    rw [ht] at hP1
    have hK1 := va_K.moved hvm.symm hK1
    obtain ⟨hP, hD⟩ := va_join (wr := []) (w1 := [(h0, .inr (3, [.ref bo, .ref c1, .int 0, .ref d0, .ref d1, .ref d2, .ref d3, .ref d4, .ref d5, .ref d6, .ref d7, .ref d8])), (bo, .inr (1, [.ref b0, .int 0, .ref b1, .int 0, .ref b2, .int 0, .ref b3, .int 0]))]) hP hD [0, 1] [] rfl rfl (by decide) (by decide) hk1 hFc hP1 hD1
    have hK := (hK.sub (tys' := []) [] rfl).app hK1
    have hP : va_P (dC, dI) vwCl [(h0, .inr (3, [.ref bo, .ref c1, .int 0, .ref d0, .ref d1, .ref d2, .ref d3, .ref d4, .ref d5, .ref d6, .ref d7, .ref d8])), (bo, .inr (1, [.ref b0, .int 0, .ref b1, .int 0, .ref b2, .int 0, .ref b3, .int 0]))] H := hP
    have hD : va_D A [(h0, .inr (3, [.ref bo, .ref c1, .int 0, .ref d0, .ref d1, .ref d2, .ref d3, .ref d4, .ref d5, .ref d6, .ref d7, .ref d8])), (bo, .inr (1, [.ref b0, .int 0, .ref b1, .int 0, .ref b2, .int 0, .ref b3, .int 0]))] := hD
    have hK : va_K (dC, dI) vwCl [] s := hK
    refine lv_aload_n hx hb dX3_runOn_82 rfl (lv_at hl 4 rfl) ?_
    refine lv_dup hx hb dX3_runOn_83 rfl ?_
    refine va_get (D := (dC, dI)) (ci := 3) (v := .int 0) (C := RX3) (T := TX3) (N := 12) hx hb hts (fun _ hh => (List.mem_cons_of_mem _ (List.mem_append_right _ (List.mem_append_left _ hh)))) hown hK hP 0 rfl rfl 2 (by decide) (hts (.fieldLink RX3 9 "TypingPool$Floor" "now" "I") (List.mem_cons_of_mem _ (List.mem_append_left _ (List.mem_of_getElem? (i := 0) rfl)))) (fun _ h9 => h9) rfl dX3_runOn_84 ?_
    refine lv_iload hx hb dX3_runOn_87 (lv_at hl 0 rfl) ?_
    refine lv_iadd hx hb dX3_runOn_89 ?_
    refine lq_top (v := 480) (by decide) ?_
    refine va_put (D := (dC, dI)) (ci := 3) (v := .int 480) (ty := .int) (C := RX3) (T := TX3) (N := 12) hx hb hts (fun _ hh => (List.mem_cons_of_mem _ (List.mem_append_right _ (List.mem_append_left _ hh)))) tyX3 tyX3_ok nmX3 hown hK hP hD hS 0 rfl rfl 2 (by decide) (hts (.fieldLink RX3 9 "TypingPool$Floor" "now" "I") (List.mem_cons_of_mem _ (List.mem_append_left _ (List.mem_of_getElem? (i := 0) rfl)))) (fun _ h9 => h9) rfl (tyX3_ok 2 (by decide)) rfl rfl (Nat.le_of_ble_eq_true rfl) dX3_runOn_90 (fun H locs hP hD hS => ?_)
    have hP : va_P (dC, dI) vwCl [(h0, .inr (3, [.ref bo, .ref c1, .int 480, .ref d0, .ref d1, .ref d2, .ref d3, .ref d4, .ref d5, .ref d6, .ref d7, .ref d8])), (bo, .inr (1, [.ref b0, .int 0, .ref b1, .int 0, .ref b2, .int 0, .ref b3, .int 0]))] H := hP
    have hD : va_D A [(h0, .inr (3, [.ref bo, .ref c1, .int 480, .ref d0, .ref d1, .ref d2, .ref d3, .ref d4, .ref d5, .ref d6, .ref d7, .ref d8])), (bo, .inr (1, [.ref b0, .int 0, .ref b1, .int 0, .ref b2, .int 0, .ref b3, .int 0]))] := hD
    refine lv_iinc (v := 1) (lv' := [(5, .int 1), (7, .int 480), (6, .int 0), (4, .int p0), (0, .ref h0), (1, .int p0), (2, .null), (3, .int (-1))]) hx hb dX3_runOn_93 hl (k := 2) rfl (by decide) (by decide) rfl (fun ls hl => ?_)
    refine lv_goto (tgt := 11) hx hb dX3_runOn_96 (by decide) ?_
    refine lv_iload hx hb dX3_runOn_11 (lv_at hl 0 rfl) ?_
    refine lv_iload_n hx hb dX3_runOn_13 rfl (lv_at hl 5 rfl) ?_
    refine lv_icmp_ge (tgt := 99) hx hb dX3_runOn_14 (by decide) (fun c_26 => absurd c_26 (i_gt_not (Int32.not_le.mp hq_1) (by decide))) (fun c_26 => ?_)
    refine lv_aload_n hx hb dX3_runOn_17 rfl (lv_at hl 4 rfl) ?_
    refine va_get (D := (dC, dI)) (ci := 3) (v := .int 480) (C := RX3) (T := TX3) (N := 12) hx hb hts (fun _ hh => (List.mem_cons_of_mem _ (List.mem_append_right _ (List.mem_append_left _ hh)))) hown hK hP 0 rfl rfl 2 (by decide) (hts (.fieldLink RX3 9 "TypingPool$Floor" "now" "I") (List.mem_cons_of_mem _ (List.mem_append_left _ (List.mem_of_getElem? (i := 0) rfl)))) (fun _ h9 => h9) rfl dX3_runOn_18 ?_
    refine lv_iload hx hb dX3_runOn_21 (lv_at hl 3 rfl) ?_
    refine lv_icmp_ge (tgt := 99) hx hb dX3_runOn_23 (by decide) (fun c_27 => absurd c_27 (i_gt_not (Int32.not_le.mp hq_1) (by decide))) (fun c_27 => ?_)
    refine lv_aload_n hx hb dX3_runOn_26 rfl (lv_at hl 4 rfl) ?_
    refine va_get (D := (dC, dI)) (ci := 3) (v := .ref bo) (C := RX3) (T := TX3) (N := 12) hx hb hts (fun _ hh => (List.mem_cons_of_mem _ (List.mem_append_right _ (List.mem_append_left _ hh)))) hown hK hP 0 rfl rfl 0 (by decide) (hts (.fieldLink RX3 43 "TypingPool$Floor" "book" "LTypingPool$Book;") (List.mem_cons_of_mem _ (List.mem_append_left _ (List.mem_of_getElem? (i := 1) rfl)))) (fun _ h9 => h9) rfl dX3_runOn_27 ?_
    refine lv_aload_n hx hb dX3_runOn_30 rfl (lv_at hl 4 rfl) ?_
    refine va_get (D := (dC, dI)) (ci := 3) (v := .int 480) (C := RX3) (T := TX3) (N := 12) hx hb hts (fun _ hh => (List.mem_cons_of_mem _ (List.mem_append_right _ (List.mem_append_left _ hh)))) hown hK hP 0 rfl rfl 2 (by decide) (hts (.fieldLink RX3 9 "TypingPool$Floor" "now" "I") (List.mem_cons_of_mem _ (List.mem_append_left _ (List.mem_of_getElem? (i := 0) rfl)))) (fun _ h9 => h9) rfl dX3_runOn_31 ?_
    have hPc := hP.sub (ws' := [(bo, .inr (1, [.ref b0, .int 0, .ref b1, .int 0, .ref b2, .int 0, .ref b3, .int 0]))]) [1] rfl
    have hDc := hD.sub (ws' := [(bo, .inr (1, [.ref b0, .int 0, .ref b1, .int 0, .ref b2, .int 0, .ref b3, .int 0]))]) [1] (by decide) rfl
    have hKc := hK.sub (tys' := []) [] rfl
    have hFc := va_free (wc := [(bo, .inr (1, [.ref b0, .int 0, .ref b1, .int 0, .ref b2, .int 0, .ref b3, .int 0]))]) hD hS hA [1] rfl
    refine va_calli (va_runV (As := [.int 480]) (rest := []) ⟨hx, hb, hml, hown, hts⟩ (c_awayMask0 l dC dI ad av H.size bo b0 b1 b2 b3 480 ) (cwV 1 hts (gi_4 (List.mem_cons_of_mem _ (List.mem_append_left _ (List.mem_of_getElem? (i := 2) rfl))) (List.mem_cons_of_mem _ (List.mem_append_left _ (List.mem_of_getElem? (i := 3) rfl))) (List.mem_cons_of_mem _ (List.mem_append_left _ (List.mem_of_getElem? (i := 4) rfl))) (List.mem_cons_of_mem _ (List.mem_append_left _ (List.mem_of_getElem? (i := 5) rfl))) (fun _ hh => (List.mem_cons_of_mem _ (List.mem_append_right _ (List.mem_append_right _ (List.mem_append_left _ hh))))) gd_c_awayMask0) rfl rfl rfl (by decide +kernel) ⟨Nat.le_of_ble_eq_true rfl, Nat.le_of_ble_eq_true rfl⟩) ⟨pr_blind, va_recv hKc hPc (ci := 1) (q0 := 0) rfl rfl, pr_use hPc hKc hDc hFc hS hM⟩ rfl rfl hl.1 rfl (lv_room (Nat.le_of_ble_eq_true rfl)) dX3_runOn_34 ⟨Nat.le_of_ble_eq_true rfl, Nat.le_of_ble_eq_true rfl⟩) hS (fun q _ h => hFc q h) hFc (fun r_28 u t H locs ht hvm hw hB hz1 hk1 hS => ?_)
    refine W.widen (k := 0) (n := 0) (Nat.le_of_ble_eq_true rfl) (Nat.le_of_ble_eq_true rfl) ?_
    subst hw
    obtain ⟨hre_29, hP1, hK1, hD1⟩ := hB
    refine lq_top (v := 0) hre_29 ?_
    rw [ht] at hP1
    have hK1 := va_K.moved hvm.symm hK1
    obtain ⟨hP, hD⟩ := va_join (wr := [(h0, .inr (3, [.ref bo, .ref c1, .int 480, .ref d0, .ref d1, .ref d2, .ref d3, .ref d4, .ref d5, .ref d6, .ref d7, .ref d8]))]) (w1 := [(bo, .inr (1, [.ref b0, .int 0, .ref b1, .int 0, .ref b2, .int 0, .ref b3, .int 0]))]) hP hD [1] [0] rfl rfl (by decide) (by decide) hk1 hFc hP1 hD1
    have hK := (hK.sub (tys' := []) [] rfl).app hK1
    have hP : va_P (dC, dI) vwCl [(h0, .inr (3, [.ref bo, .ref c1, .int 480, .ref d0, .ref d1, .ref d2, .ref d3, .ref d4, .ref d5, .ref d6, .ref d7, .ref d8])), (bo, .inr (1, [.ref b0, .int 0, .ref b1, .int 0, .ref b2, .int 0, .ref b3, .int 0]))] H := hP
    have hD : va_D A [(h0, .inr (3, [.ref bo, .ref c1, .int 480, .ref d0, .ref d1, .ref d2, .ref d3, .ref d4, .ref d5, .ref d6, .ref d7, .ref d8])), (bo, .inr (1, [.ref b0, .int 0, .ref b1, .int 0, .ref b2, .int 0, .ref b3, .int 0]))] := hD
    have hK : va_K (dC, dI) vwCl [] s := hK
    refine lv_iload_n hx hb dX3_runOn_37 rfl (lv_at hl 7 rfl) ?_
    refine lv_iconst (v := (-1)) hx hb dX3_runOn_38 (by decide) ?_
    refine lv_icmp_ne (tgt := 46) hx hb dX3_runOn_39 (by decide) (fun c_30 => absurd c_30 (fun z => z (by decide))) (fun c_30 => ?_)
    refine lv_iconst (v := 0) hx hb dX3_runOn_42 (by decide) ?_
    refine lv_goto (tgt := 49) hx hb dX3_runOn_43 (by decide) ?_
    refine lv_ior hx hb dX3_runOn_49 ?_
    refine lq_top (v := 0) (by decide) ?_
    refine lv_istore (lv' := [(6, .int 0), (5, .int 1), (7, .int 480), (4, .int p0), (0, .ref h0), (1, .int p0), (2, .null), (3, .int (-1))]) hx hb dX3_runOn_50 hl (by decide) rfl (fun ls hl => ?_)
    refine lv_aload_n hx hb dX3_runOn_52 rfl (lv_at hl 4 rfl) ?_
    refine lv_iload hx hb dX3_runOn_53 (lv_at hl 0 rfl) ?_
    refine lv_aload_nN hx hb dX3_runOn_55 rfl (lv_at hl 6 rfl) ?_
    have hPc := hP.sub (ws' := [(h0, .inr (3, [.ref bo, .ref c1, .int 480, .ref d0, .ref d1, .ref d2, .ref d3, .ref d4, .ref d5, .ref d6, .ref d7, .ref d8])), (bo, .inr (1, [.ref b0, .int 0, .ref b1, .int 0, .ref b2, .int 0, .ref b3, .int 0]))]) [0, 1] rfl
    have hDc := hD.sub (ws' := [(h0, .inr (3, [.ref bo, .ref c1, .int 480, .ref d0, .ref d1, .ref d2, .ref d3, .ref d4, .ref d5, .ref d6, .ref d7, .ref d8])), (bo, .inr (1, [.ref b0, .int 0, .ref b1, .int 0, .ref b2, .int 0, .ref b3, .int 0]))]) [0, 1] (by decide) rfl
    have hKc := hK.sub (tys' := []) [] rfl
    have hFc := va_free (wc := [(h0, .inr (3, [.ref bo, .ref c1, .int 480, .ref d0, .ref d1, .ref d2, .ref d3, .ref d4, .ref d5, .ref d6, .ref d7, .ref d8])), (bo, .inr (1, [.ref b0, .int 0, .ref b1, .int 0, .ref b2, .int 0, .ref b3, .int 0]))]) hD hS hA [0, 1] rfl
    refine va_callv (va_runV (As := [.int 0, .null]) (rest := []) ⟨hx, hb, hml, hown, hts⟩ (c_takeAll0 l dC dI ad av H.size h0 bo c1 d0 d1 d2 d3 d4 d5 d6 d7 d8 b0 b1 b2 b3 480 0 ) (cwV 2 hts (gi_4 (List.mem_cons_of_mem _ (List.mem_append_left _ (List.mem_of_getElem? (i := 6) rfl))) (List.mem_cons_of_mem _ (List.mem_append_left _ (List.mem_of_getElem? (i := 7) rfl))) (List.mem_cons_of_mem _ (List.mem_append_left _ (List.mem_of_getElem? (i := 8) rfl))) (List.mem_cons_of_mem _ (List.mem_append_left _ (List.mem_of_getElem? (i := 9) rfl))) (fun _ hh => (List.mem_cons_of_mem _ (List.mem_append_right _ (List.mem_append_right _ (List.mem_append_right _ (List.mem_append_left _ hh)))))) gd_c_takeAll0) rfl rfl rfl (by decide +kernel) ⟨Nat.le_of_ble_eq_true rfl, Nat.le_of_ble_eq_true rfl⟩) ⟨pr_blind, va_recv hKc hPc (ci := 3) (q0 := 0) rfl rfl, pr_use hPc hKc hDc hFc hS hM⟩ rfl rfl hl.1 rfl (lv_room (Nat.le_of_ble_eq_true rfl)) dX3_runOn_56 ⟨Nat.le_of_ble_eq_true rfl, Nat.le_of_ble_eq_true rfl⟩) hS (fun q _ h => hFc q h) hFc (fun u t H locs ht hvm hw hB hz1 hk1 hS => ?_)
    refine W.widen (k := 0) (n := 0) (Nat.le_of_ble_eq_true rfl) (Nat.le_of_ble_eq_true rfl) ?_
    obtain ⟨hP1, hK1, hD1⟩ := hB
    rw [ht] at hP1
    have hK1 := va_K.moved hvm.symm hK1
    obtain ⟨hP, hD⟩ := va_join (wr := []) (w1 := [(h0, .inr (3, [.ref bo, .ref c1, .int 480, .ref d0, .ref d1, .ref d2, .ref d3, .ref d4, .ref d5, .ref d6, .ref d7, .ref d8])), (bo, .inr (1, [.ref b0, .int 0, .ref b1, .int 0, .ref b2, .int 0, .ref b3, .int 0]))]) hP hD [0, 1] [] rfl rfl (by decide) (by decide) hk1 hFc hP1 hD1
    have hK := (hK.sub (tys' := []) [] rfl).app hK1
    have hP : va_P (dC, dI) vwCl [(h0, .inr (3, [.ref bo, .ref c1, .int 480, .ref d0, .ref d1, .ref d2, .ref d3, .ref d4, .ref d5, .ref d6, .ref d7, .ref d8])), (bo, .inr (1, [.ref b0, .int 0, .ref b1, .int 0, .ref b2, .int 0, .ref b3, .int 0]))] H := hP
    have hD : va_D A [(h0, .inr (3, [.ref bo, .ref c1, .int 480, .ref d0, .ref d1, .ref d2, .ref d3, .ref d4, .ref d5, .ref d6, .ref d7, .ref d8])), (bo, .inr (1, [.ref b0, .int 0, .ref b1, .int 0, .ref b2, .int 0, .ref b3, .int 0]))] := hD
    have hK : va_K (dC, dI) vwCl [] s := hK
    refine lv_aload_n hx hb dX3_runOn_59 rfl (lv_at hl 4 rfl) ?_
    refine lv_iload hx hb dX3_runOn_60 (lv_at hl 0 rfl) ?_
    refine lv_iload hx hb dX3_runOn_62 (lv_at hl 3 rfl) ?_
    have hPc := hP.sub (ws' := [(h0, .inr (3, [.ref bo, .ref c1, .int 480, .ref d0, .ref d1, .ref d2, .ref d3, .ref d4, .ref d5, .ref d6, .ref d7, .ref d8])), (bo, .inr (1, [.ref b0, .int 0, .ref b1, .int 0, .ref b2, .int 0, .ref b3, .int 0]))]) [0, 1] rfl
    have hDc := hD.sub (ws' := [(h0, .inr (3, [.ref bo, .ref c1, .int 480, .ref d0, .ref d1, .ref d2, .ref d3, .ref d4, .ref d5, .ref d6, .ref d7, .ref d8])), (bo, .inr (1, [.ref b0, .int 0, .ref b1, .int 0, .ref b2, .int 0, .ref b3, .int 0]))]) [0, 1] (by decide) rfl
    have hKc := hK.sub (tys' := []) [] rfl
    have hFc := va_free (wc := [(h0, .inr (3, [.ref bo, .ref c1, .int 480, .ref d0, .ref d1, .ref d2, .ref d3, .ref d4, .ref d5, .ref d6, .ref d7, .ref d8])), (bo, .inr (1, [.ref b0, .int 0, .ref b1, .int 0, .ref b2, .int 0, .ref b3, .int 0]))]) hD hS hA [0, 1] rfl
    refine va_calli (va_runV (As := [.int 0, .int p0]) (rest := []) ⟨hx, hb, hml, hown, hts⟩ (c_changeFrom480 l dC dI ad av H.size h0 bo c1 d0 d1 d2 d3 d4 d5 d6 d7 d8 b0 b1 b2 b3 0 p0 h2) (cwV 2 hts (gi_4 (List.mem_cons_of_mem _ (List.mem_append_left _ (List.mem_of_getElem? (i := 10) rfl))) (List.mem_cons_of_mem _ (List.mem_append_left _ (List.mem_of_getElem? (i := 11) rfl))) (List.mem_cons_of_mem _ (List.mem_append_left _ (List.mem_of_getElem? (i := 12) rfl))) (List.mem_cons_of_mem _ (List.mem_append_left _ (List.mem_of_getElem? (i := 9) rfl))) (fun _ hh => (List.mem_cons_of_mem _ (List.mem_append_right _ (List.mem_append_right _ (List.mem_append_right _ (List.mem_append_right _ (List.mem_append_right _ (List.mem_append_right _ (List.mem_append_right _ (List.mem_append_left _ hh)))))))))) gd_c_changeFrom480) rfl rfl rfl (by decide +kernel) ⟨Nat.le_of_ble_eq_true rfl, Nat.le_of_ble_eq_true rfl⟩) ⟨pr_blind, va_recv hKc hPc (ci := 3) (q0 := 0) rfl rfl, pr_use hPc hKc hDc hFc hS hM⟩ rfl rfl hl.1 rfl (lv_room (Nat.le_of_ble_eq_true rfl)) dX3_runOn_64 ⟨Nat.le_of_ble_eq_true rfl, Nat.le_of_ble_eq_true rfl⟩) hS (fun q _ h => hFc q h) hFc (fun r_33 u t H locs ht hvm hw hB hz1 hk1 hS => ?_)
    refine W.widen (k := 0) (n := 0) (Nat.le_of_ble_eq_true rfl) (Nat.le_of_ble_eq_true rfl) ?_
    subst hw
    obtain ⟨hre_34, hP1, hK1, hD1⟩ := hB
    refine lq_top (v := p0) hre_34 ?_
    rw [ht] at hP1
    have hK1 := va_K.moved hvm.symm hK1
    obtain ⟨hP, hD⟩ := va_join (wr := []) (w1 := [(h0, .inr (3, [.ref bo, .ref c1, .int 480, .ref d0, .ref d1, .ref d2, .ref d3, .ref d4, .ref d5, .ref d6, .ref d7, .ref d8])), (bo, .inr (1, [.ref b0, .int 0, .ref b1, .int 0, .ref b2, .int 0, .ref b3, .int 0]))]) hP hD [0, 1] [] rfl rfl (by decide) (by decide) hk1 hFc hP1 hD1
    have hK := (hK.sub (tys' := []) [] rfl).app hK1
    have hP : va_P (dC, dI) vwCl [(h0, .inr (3, [.ref bo, .ref c1, .int 480, .ref d0, .ref d1, .ref d2, .ref d3, .ref d4, .ref d5, .ref d6, .ref d7, .ref d8])), (bo, .inr (1, [.ref b0, .int 0, .ref b1, .int 0, .ref b2, .int 0, .ref b3, .int 0]))] H := hP
    have hD : va_D A [(h0, .inr (3, [.ref bo, .ref c1, .int 480, .ref d0, .ref d1, .ref d2, .ref d3, .ref d4, .ref d5, .ref d6, .ref d7, .ref d8])), (bo, .inr (1, [.ref b0, .int 0, .ref b1, .int 0, .ref b2, .int 0, .ref b3, .int 0]))] := hD
    have hK : va_K (dC, dI) vwCl [] s := hK
    refine lv_aload_n hx hb dX3_runOn_67 rfl (lv_at hl 4 rfl) ?_
    refine va_get (D := (dC, dI)) (ci := 3) (v := .int 480) (C := RX3) (T := TX3) (N := 12) hx hb hts (fun _ hh => (List.mem_cons_of_mem _ (List.mem_append_right _ (List.mem_append_left _ hh)))) hown hK hP 0 rfl rfl 2 (by decide) (hts (.fieldLink RX3 9 "TypingPool$Floor" "now" "I") (List.mem_cons_of_mem _ (List.mem_append_left _ (List.mem_of_getElem? (i := 0) rfl)))) (fun _ h9 => h9) rfl dX3_runOn_68 ?_
    refine lv_isub hx hb dX3_runOn_71 ?_
    refine lv_topi (fun x_35 ex_35 => ?_)
    refine lv_istore (lv' := [(7, .int x_35), (6, .int 0), (5, .int 1), (4, .int p0), (0, .ref h0), (1, .int p0), (2, .null), (3, .int (-1))]) hx hb dX3_runOn_72 hl (by decide) rfl (fun ls hl => ?_)
    refine lv_aload_n hx hb dX3_runOn_74 rfl (lv_at hl 4 rfl) ?_
    refine lv_iload hx hb dX3_runOn_75 (lv_at hl 1 rfl) ?_
    refine lv_iload hx hb dX3_runOn_77 (lv_at hl 0 rfl) ?_
    have hPc := hP.sub (ws' := [(h0, .inr (3, [.ref bo, .ref c1, .int 480, .ref d0, .ref d1, .ref d2, .ref d3, .ref d4, .ref d5, .ref d6, .ref d7, .ref d8])), (bo, .inr (1, [.ref b0, .int 0, .ref b1, .int 0, .ref b2, .int 0, .ref b3, .int 0]))]) [0, 1] rfl
    have hDc := hD.sub (ws' := [(h0, .inr (3, [.ref bo, .ref c1, .int 480, .ref d0, .ref d1, .ref d2, .ref d3, .ref d4, .ref d5, .ref d6, .ref d7, .ref d8])), (bo, .inr (1, [.ref b0, .int 0, .ref b1, .int 0, .ref b2, .int 0, .ref b3, .int 0]))]) [0, 1] (by decide) rfl
    have hKc := hK.sub (tys' := []) [] rfl
    have hFc := va_free (wc := [(h0, .inr (3, [.ref bo, .ref c1, .int 480, .ref d0, .ref d1, .ref d2, .ref d3, .ref d4, .ref d5, .ref d6, .ref d7, .ref d8])), (bo, .inr (1, [.ref b0, .int 0, .ref b1, .int 0, .ref b2, .int 0, .ref b3, .int 0]))]) hD hS hA [0, 1] rfl
    refine va_callv (va_runV (As := [.int 0, .int x_35]) (rest := []) ⟨hx, hb, hml, hown, hts⟩ (c_workAll0 l dC dI ad av H.size h0 bo c1 d0 d1 d2 d3 d4 d5 d6 d7 d8 b0 b1 b2 b3 480 0 x_35 ) (cwV 2 hts (gi_4 (List.mem_cons_of_mem _ (List.mem_append_left _ (List.mem_of_getElem? (i := 13) rfl))) (List.mem_cons_of_mem _ (List.mem_append_left _ (List.mem_of_getElem? (i := 14) rfl))) (List.mem_cons_of_mem _ (List.mem_append_left _ (List.mem_of_getElem? (i := 15) rfl))) (List.mem_cons_of_mem _ (List.mem_append_left _ (List.mem_of_getElem? (i := 9) rfl))) (fun _ hh => (List.mem_cons_of_mem _ (List.mem_append_right _ (List.mem_append_right _ (List.mem_append_right _ (List.mem_append_right _ (List.mem_append_right _ (List.mem_append_left _ hh)))))))) gd_c_workAll0) rfl rfl rfl (by decide +kernel) ⟨Nat.le_of_ble_eq_true rfl, Nat.le_of_ble_eq_true rfl⟩) ⟨pr_blind, va_recv hKc hPc (ci := 3) (q0 := 0) rfl rfl, pr_use hPc hKc hDc hFc hS hM⟩ rfl rfl hl.1 rfl (lv_room (Nat.le_of_ble_eq_true rfl)) dX3_runOn_79 ⟨Nat.le_of_ble_eq_true rfl, Nat.le_of_ble_eq_true rfl⟩) hS (fun q _ h => hFc q h) hFc (fun u t H locs ht hvm hw hB hz1 hk1 hS => ?_)
    refine W.widen (k := 0) (n := 0) (Nat.le_of_ble_eq_true rfl) (Nat.le_of_ble_eq_true rfl) ?_
    obtain ⟨hP1, hK1, hD1⟩ := hB
    rw [ht] at hP1
    have hK1 := va_K.moved hvm.symm hK1
    obtain ⟨hP, hD⟩ := va_join (wr := []) (w1 := [(h0, .inr (3, [.ref bo, .ref c1, .int 480, .ref d0, .ref d1, .ref d2, .ref d3, .ref d4, .ref d5, .ref d6, .ref d7, .ref d8])), (bo, .inr (1, [.ref b0, .int 0, .ref b1, .int 0, .ref b2, .int 0, .ref b3, .int 0]))]) hP hD [0, 1] [] rfl rfl (by decide) (by decide) hk1 hFc hP1 hD1
    have hK := (hK.sub (tys' := []) [] rfl).app hK1
    have hP : va_P (dC, dI) vwCl [(h0, .inr (3, [.ref bo, .ref c1, .int 480, .ref d0, .ref d1, .ref d2, .ref d3, .ref d4, .ref d5, .ref d6, .ref d7, .ref d8])), (bo, .inr (1, [.ref b0, .int 0, .ref b1, .int 0, .ref b2, .int 0, .ref b3, .int 0]))] H := hP
    have hD : va_D A [(h0, .inr (3, [.ref bo, .ref c1, .int 480, .ref d0, .ref d1, .ref d2, .ref d3, .ref d4, .ref d5, .ref d6, .ref d7, .ref d8])), (bo, .inr (1, [.ref b0, .int 0, .ref b1, .int 0, .ref b2, .int 0, .ref b3, .int 0]))] := hD
    have hK : va_K (dC, dI) vwCl [] s := hK
    refine lv_aload_n hx hb dX3_runOn_82 rfl (lv_at hl 4 rfl) ?_
    refine lv_dup hx hb dX3_runOn_83 rfl ?_
    refine va_get (D := (dC, dI)) (ci := 3) (v := .int 480) (C := RX3) (T := TX3) (N := 12) hx hb hts (fun _ hh => (List.mem_cons_of_mem _ (List.mem_append_right _ (List.mem_append_left _ hh)))) hown hK hP 0 rfl rfl 2 (by decide) (hts (.fieldLink RX3 9 "TypingPool$Floor" "now" "I") (List.mem_cons_of_mem _ (List.mem_append_left _ (List.mem_of_getElem? (i := 0) rfl)))) (fun _ h9 => h9) rfl dX3_runOn_84 ?_
    refine lv_iload hx hb dX3_runOn_87 (lv_at hl 0 rfl) ?_
    refine lv_iadd hx hb dX3_runOn_89 ?_
    refine lq_top (v := p0) (by rw [ex_35]; exact i_back _ _) ?_
    refine va_put (D := (dC, dI)) (ci := 3) (v := .int p0) (ty := .int) (C := RX3) (T := TX3) (N := 12) hx hb hts (fun _ hh => (List.mem_cons_of_mem _ (List.mem_append_right _ (List.mem_append_left _ hh)))) tyX3 tyX3_ok nmX3 hown hK hP hD hS 0 rfl rfl 2 (by decide) (hts (.fieldLink RX3 9 "TypingPool$Floor" "now" "I") (List.mem_cons_of_mem _ (List.mem_append_left _ (List.mem_of_getElem? (i := 0) rfl)))) (fun _ h9 => h9) rfl (tyX3_ok 2 (by decide)) rfl rfl (Nat.le_of_ble_eq_true rfl) dX3_runOn_90 (fun H locs hP hD hS => ?_)
    have hP : va_P (dC, dI) vwCl [(h0, .inr (3, [.ref bo, .ref c1, .int p0, .ref d0, .ref d1, .ref d2, .ref d3, .ref d4, .ref d5, .ref d6, .ref d7, .ref d8])), (bo, .inr (1, [.ref b0, .int 0, .ref b1, .int 0, .ref b2, .int 0, .ref b3, .int 0]))] H := hP
    have hD : va_D A [(h0, .inr (3, [.ref bo, .ref c1, .int p0, .ref d0, .ref d1, .ref d2, .ref d3, .ref d4, .ref d5, .ref d6, .ref d7, .ref d8])), (bo, .inr (1, [.ref b0, .int 0, .ref b1, .int 0, .ref b2, .int 0, .ref b3, .int 0]))] := hD
    refine lv_iinc (v := 2) (lv' := [(5, .int 2), (7, .int x_35), (6, .int 0), (4, .int p0), (0, .ref h0), (1, .int p0), (2, .null), (3, .int (-1))]) hx hb dX3_runOn_93 hl (k := 2) rfl (by decide) (by decide) rfl (fun ls hl => ?_)
    refine lv_goto (tgt := 11) hx hb dX3_runOn_96 (by decide) ?_
    refine lv_iload hx hb dX3_runOn_11 (lv_at hl 0 rfl) ?_
    refine lv_iload_n hx hb dX3_runOn_13 rfl (lv_at hl 5 rfl) ?_
    refine lv_icmp_ge (tgt := 99) hx hb dX3_runOn_14 (by decide) (fun c_38 => absurd c_38 (i_gt_not (Int32.not_le.mp hq_1) (by decide))) (fun c_38 => ?_)
    refine lv_aload_n hx hb dX3_runOn_17 rfl (lv_at hl 4 rfl) ?_
    refine va_get (D := (dC, dI)) (ci := 3) (v := .int p0) (C := RX3) (T := TX3) (N := 12) hx hb hts (fun _ hh => (List.mem_cons_of_mem _ (List.mem_append_right _ (List.mem_append_left _ hh)))) hown hK hP 0 rfl rfl 2 (by decide) (hts (.fieldLink RX3 9 "TypingPool$Floor" "now" "I") (List.mem_cons_of_mem _ (List.mem_append_left _ (List.mem_of_getElem? (i := 0) rfl)))) (fun _ h9 => h9) rfl dX3_runOn_18 ?_
    refine lv_iload hx hb dX3_runOn_21 (lv_at hl 3 rfl) ?_
    refine lv_icmp_ge (tgt := 99) hx hb dX3_runOn_23 (by decide) (fun c_39 => ?_) (fun c_39 => absurd c_39 (fun z => z (i_le_refl _)))
    have hP9 := hP.sub (ws' := [(h0, .inr (3, [.ref bo, .ref c1, .int p0, .ref d0, .ref d1, .ref d2, .ref d3, .ref d4, .ref d5, .ref d6, .ref d7, .ref d8])), (bo, .inr (1, [.ref b0, .int 0, .ref b1, .int 0, .ref b2, .int 0, .ref b3, .int 0]))]) [0, 1] rfl
    have hD9 := hD.sub (ws' := [(h0, .inr (3, [.ref bo, .ref c1, .int p0, .ref d0, .ref d1, .ref d2, .ref d3, .ref d4, .ref d5, .ref d6, .ref d7, .ref d8])), (bo, .inr (1, [.ref b0, .int 0, .ref b1, .int 0, .ref b2, .int 0, .ref b3, .int 0]))]) [0, 1] (by decide) rfl
    have hK9 := hK.sub (tys' := []) [] rfl
    exact W.vret hx hb hr (fun t ht hW => ⟨⟨(), rfl, trivial, ⟨p0, rfl, by rw [ht]; exact hP9, va_K.moved hW.alike hK9, hD9⟩⟩, hS.F ht⟩) hS.2.2 dX3_runOn_99
def wo_c_canGoOn0 : List Cond := [.methodLink RX11 68 yX11_within, .static yX11_within, .initialized RX11, .fieldLink RX11 28 "TypingPool" "floor" "LTypingPool$Floor;", .fieldLink RX11 99 "TypingPool$Floor" "now" "I"]
def wm_c_canGoOn0 : List Cond := .code yX11_canGoOn cX11_canGoOn 3 (some .boolean) :: (wo_c_canGoOn0 ++ (wm_c_within ++ (wsX110 ++ (wsX30 ++ ([] : List Cond)))))
theorem gd_c_canGoOn0 : ∀ w ∈ wm_c_canGoOn0, goodWord w = true := gd_c rfl (gd_a (by decide) (gd_a gd_c_within (gd_a gd_wsX110 (gd_a gd_wsX30 gd_nil))))
set_option maxRecDepth 20000 in
theorem im_c_canGoOn0 : ∀ w ∈ wm_c_canGoOn0, w ∈ lw_tbl := im_c (in_r [.code yX11_canGoOn cX11_canGoOn 3 (some .boolean)] [750] (by decide +kernel)) (in_app (in_r wo_c_canGoOn0 [594, 595, 70, 561, 429] (by decide +kernel)) (in_app im_c_within (in_app im_wsX110 (in_app im_wsX30 im_nil))))
set_option maxHeartbeats 4000000 in
set_option maxRecDepth 100000 in
theorem c_canGoOn0 (l : Launch) (dC : Nat → ClassId) (dI : Nat → Nat → Nat) (ad av : Nat → Nat) (sz : Nat) (h0 : Nat) (a : Nat → Nat) (k : Nat → ClassId) (p0 : Int32) : Met l yX11_canGoOn wm_c_canGoOn0 ({ frames := 3, cells := 0, slots := 0, locals := 100 }) (pr_ ad av (dC, dI) sz [.ref h0, .int p0, .int 0] [(h0, .inr (11, [.ref (a 1), .ref (a 2), .ref (a 3), .ref (a 4), .ref (a 5), .ref (a 6), .ref (a 7), .int 0, .ref (a 8), .int 0])), ((a 3), .inr (3, [.ref (a 1), .ref (a 2), .int 0, .ref (a 20), .ref (a 21), .ref (a 22), .ref (a 23), .ref (a 24), .ref (a 25), .ref (a 26), .ref (a 27), .ref (a 28)]))] []) (va_Qi (fun (r u : Int32) => u = r) (fun (r : Int32) (t : State) => (r = 1 ∧ 0 ≤ p0 ∧ p0 ≤ 960 ∧ po_ (dC, dI) (va_A [(h0, .inr (11, [.ref (a 1), .ref (a 2), .ref (a 3), .ref (a 4), .ref (a 5), .ref (a 6), .ref (a 7), .int 0, .ref (a 8), .int 0])), ((a 3), .inr (3, [.ref (a 1), .ref (a 2), .int 0, .ref (a 20), .ref (a 21), .ref (a 22), .ref (a 23), .ref (a 24), .ref (a 25), .ref (a 26), .ref (a 27), .ref (a 28)]))] sz) [(h0, .inr (11, [.ref (a 1), .ref (a 2), .ref (a 3), .ref (a 4), .ref (a 5), .ref (a 6), .ref (a 7), .int 0, .ref (a 8), .int 0])), ((a 3), .inr (3, [.ref (a 1), .ref (a 2), .int 0, .ref (a 20), .ref (a 21), .ref (a 22), .ref (a 23), .ref (a 24), .ref (a 25), .ref (a 26), .ref (a 27), .ref (a 28)]))] [] t) ∨ (r = 0 ∧ ¬ (0 ≤ p0 ∧ p0 ≤ 960) ∧ po_ (dC, dI) (va_A [(h0, .inr (11, [.ref (a 1), .ref (a 2), .ref (a 3), .ref (a 4), .ref (a 5), .ref (a 6), .ref (a 7), .int 0, .ref (a 8), .int 0])), ((a 3), .inr (3, [.ref (a 1), .ref (a 2), .int 0, .ref (a 20), .ref (a 21), .ref (a 22), .ref (a 23), .ref (a 24), .ref (a 25), .ref (a 26), .ref (a 27), .ref (a 28)]))] sz) [(h0, .inr (11, [.ref (a 1), .ref (a 2), .ref (a 3), .ref (a 4), .ref (a 5), .ref (a 6), .ref (a 7), .int 0, .ref (a 8), .int 0])), ((a 3), .inr (3, [.ref (a 1), .ref (a 2), .int 0, .ref (a 20), .ref (a 21), .ref (a 22), .ref (a 23), .ref (a 24), .ref (a 25), .ref (a 26), .ref (a 27), .ref (a 28)]))] [] t)) (va_A [(h0, .inr (11, [.ref (a 1), .ref (a 2), .ref (a 3), .ref (a 4), .ref (a 5), .ref (a 6), .ref (a 7), .int 0, .ref (a 8), .int 0])), ((a 3), .inr (3, [.ref (a 1), .ref (a 2), .int 0, .ref (a 20), .ref (a 21), .ref (a 22), .ref (a 23), .ref (a 24), .ref (a 25), .ref (a 26), .ref (a 27), .ref (a 28)]))] sz)) 0 0 (va_A [(h0, .inr (11, [.ref (a 1), .ref (a 2), .ref (a 3), .ref (a 4), .ref (a 5), .ref (a 6), .ref (a 7), .int 0, .ref (a 8), .int 0])), ((a 3), .inr (3, [.ref (a 1), .ref (a 2), .int 0, .ref (a 20), .ref (a 21), .ref (a 22), .ref (a 23), .ref (a 24), .ref (a 25), .ref (a 26), .ref (a 27), .ref (a 28)]))] sz) := by
  refine Met.ofW (cc := cX11_canGoOn) (maxL := 3) (ret := (some .boolean)) (by decide) rfl ?_
  intro p e s m args below meth c s₁ B hml hv
  obtain ⟨rfl, hsz, hP, hK, hD0, hM⟩ := hv
  have hx := B.exec
  have hb := B.bytes
  have hr := B.returns
  have hts := atoms_spec (ws := wm_c_canGoOn0) B.pre
  have hown : s.vm.findClass RX11 = some m.cls := findClass_of_methodNamed B.named
  have hlocks := B.notSynchronized
  subst hsz
  have hD := hD0.self (sz := s.heap.size)
  generalize hAe : va_A [(h0, .inr (11, [.ref (a 1), .ref (a 2), .ref (a 3), .ref (a 4), .ref (a 5), .ref (a 6), .ref (a 7), .int 0, .ref (a 8), .int 0])), ((a 3), .inr (3, [.ref (a 1), .ref (a 2), .int 0, .ref (a 20), .ref (a 21), .ref (a 22), .ref (a 23), .ref (a 24), .ref (a 25), .ref (a 26), .ref (a 27), .ref (a 28)]))] s.heap.size = A at hD hM ⊢
  have hA : ∀ q : Nat, s.heap.size ≤ q → A q := fun q h => by rw [← hAe]; exact Or.inr h
  have hS : va_S A s.heap s.heap [] := va_S.rf
  have hP : va_P (dC, dI) vwCl [(h0, .inr (11, [.ref (a 1), .ref (a 2), .ref (a 3), .ref (a 4), .ref (a 5), .ref (a 6), .ref (a 7), .int 0, .ref (a 8), .int 0])), ((a 3), .inr (3, [.ref (a 1), .ref (a 2), .int 0, .ref (a 20), .ref (a 21), .ref (a 22), .ref (a 23), .ref (a 24), .ref (a 25), .ref (a 26), .ref (a 27), .ref (a 28)]))] s.heap := hP
  have hl := lv_entry ([.ref h0, .int p0, .int 0]) (n := 3) (Nat.le_of_ble_eq_true rfl)
  rw [lg_entry_eq]
  generalize (lg_sl ([.ref h0, .int p0, .int 0]) ++ List.replicate (3 - (lg_sl ([.ref h0, .int p0, .int 0])).length) Slot.unset).toArray = ls at hl ⊢
  have hl : lv_has ls 3 [(0, .ref h0), (1, .int p0), (2, .int 0)] := hl
  refine lv_iload_n hx hb dX11_canGoOn_0 rfl (lv_at hl 1 rfl) ?_
  refine lv_iload_n hx hb dX11_canGoOn_1 rfl (lv_at hl 2 rfl) ?_
  refine lv_sipush (v := 960) hx hb dX11_canGoOn_2 (by decide) ?_
  have hPc := hP.sub (ws' := []) [] rfl
  have hDc := hD.sub (ws' := []) [] (by decide) rfl
  have hKc := hK.sub (tys' := []) [] rfl
  have hFc := va_free (wc := []) hD hS hA [] rfl
  refine va_calli (va_runS (As := [.int p0, .int 0, .int 960]) (rest := []) ⟨hx, hb, hml, hown, hts⟩ (c_within l dC dI ad av s.heap.size p0 0 960 ) (va_cwS 3 hts (gi_3 (List.mem_cons_of_mem _ (List.mem_append_left _ (List.mem_of_getElem? (i := 0) rfl))) (List.mem_cons_of_mem _ (List.mem_append_left _ (List.mem_of_getElem? (i := 1) rfl))) (List.mem_cons_of_mem _ (List.mem_append_left _ (List.mem_of_getElem? (i := 2) rfl))) (fun _ hh => (List.mem_cons_of_mem _ (List.mem_append_right _ (List.mem_append_left _ hh)))) gd_c_within) rfl rfl rfl (by decide +kernel) ⟨Nat.le_of_ble_eq_true rfl, Nat.le_of_ble_eq_true rfl⟩) ⟨pr_blind, pr_use hPc hKc hDc hFc hS hM⟩ rfl rfl hl.1 rfl (lv_room (Nat.le_of_ble_eq_true rfl)) dX11_canGoOn_5 ⟨Nat.le_of_ble_eq_true rfl, Nat.le_of_ble_eq_true rfl⟩) hS (fun q _ h => hFc q h) hFc (fun r_1 u t H locs ht hvm hw hB hz1 hk1 hS => ?_)
  refine W.widen (k := 0) (n := 0) (Nat.le_of_ble_eq_true rfl) (Nat.le_of_ble_eq_true rfl) ?_
  subst hw
  rcases hB with ⟨hre_2, hf_3, hf_4, hP1, hK1, hD1⟩ | ⟨hre_5, hf_6, hP1, hK1, hD1⟩
  · refine lq_top (v := 1) hre_2 ?_
    rw [ht] at hP1
    have hK1 := va_K.moved hvm.symm hK1
    obtain ⟨hP, hD⟩ := va_join (wr := [(h0, .inr (11, [.ref (a 1), .ref (a 2), .ref (a 3), .ref (a 4), .ref (a 5), .ref (a 6), .ref (a 7), .int 0, .ref (a 8), .int 0])), ((a 3), .inr (3, [.ref (a 1), .ref (a 2), .int 0, .ref (a 20), .ref (a 21), .ref (a 22), .ref (a 23), .ref (a 24), .ref (a 25), .ref (a 26), .ref (a 27), .ref (a 28)]))]) (w1 := []) hP hD [] [0, 1] rfl rfl (by decide) (by decide) hk1 hFc hP1 hD1
    have hK := (hK.sub (tys' := []) [] rfl).app hK1
    have hP : va_P (dC, dI) vwCl [(h0, .inr (11, [.ref (a 1), .ref (a 2), .ref (a 3), .ref (a 4), .ref (a 5), .ref (a 6), .ref (a 7), .int 0, .ref (a 8), .int 0])), ((a 3), .inr (3, [.ref (a 1), .ref (a 2), .int 0, .ref (a 20), .ref (a 21), .ref (a 22), .ref (a 23), .ref (a 24), .ref (a 25), .ref (a 26), .ref (a 27), .ref (a 28)]))] H := hP
    have hD : va_D A [(h0, .inr (11, [.ref (a 1), .ref (a 2), .ref (a 3), .ref (a 4), .ref (a 5), .ref (a 6), .ref (a 7), .int 0, .ref (a 8), .int 0])), ((a 3), .inr (3, [.ref (a 1), .ref (a 2), .int 0, .ref (a 20), .ref (a 21), .ref (a 22), .ref (a 23), .ref (a 24), .ref (a 25), .ref (a 26), .ref (a 27), .ref (a 28)]))] := hD
    have hK : va_K (dC, dI) vwCl [] s := hK
    refine lv_if_eq (tgt := 30) hx hb dX11_canGoOn_8 (by decide) (fun c_7 => absurd c_7 (by decide)) (fun c_7 => ?_)
    refine lv_aload_n hx hb dX11_canGoOn_11 rfl (lv_at hl 0 rfl) ?_
    refine va_get (D := (dC, dI)) (ci := 11) (v := .ref (a 3)) (C := RX11) (T := TX11) (N := 10) hx hb hts (fun _ hh => (List.mem_cons_of_mem _ (List.mem_append_right _ (List.mem_append_right _ (List.mem_append_left _ hh))))) hown hK hP 0 rfl rfl 2 (by decide) (hts (.fieldLink RX11 28 "TypingPool" "floor" "LTypingPool$Floor;") (List.mem_cons_of_mem _ (List.mem_append_left _ (List.mem_of_getElem? (i := 3) rfl)))) (fun _ h9 => h9) rfl dX11_canGoOn_12 ?_
    refine va_get (D := (dC, dI)) (ci := 3) (v := .int 0) (C := RX3) (T := TX3) (N := 12) hx hb hts (fun _ hh => (List.mem_cons_of_mem _ (List.mem_append_right _ (List.mem_append_right _ (List.mem_append_right _ (List.mem_append_left _ hh)))))) hown hK hP 1 rfl rfl 2 (by decide) (hts (.fieldLink RX11 99 "TypingPool$Floor" "now" "I") (List.mem_cons_of_mem _ (List.mem_append_left _ (List.mem_of_getElem? (i := 4) rfl)))) (fun _ h9 => h9) rfl dX11_canGoOn_15 ?_
    refine lv_iload_n hx hb dX11_canGoOn_18 rfl (lv_at hl 1 rfl) ?_
    refine lv_iadd hx hb dX11_canGoOn_19 ?_
    refine lq_top (v := p0) (Int32.zero_add _) ?_
    refine lv_sipush (v := 4800) hx hb dX11_canGoOn_20 (by decide) ?_
    refine lv_icmp_gt (tgt := 30) hx hb dX11_canGoOn_23 (by decide) (fun c_8 => absurd c_8 (Int32.not_lt.mpr (Int32.le_trans hf_4 (by decide)))) (fun c_8 => ?_)
    refine lv_iconst (v := 1) hx hb dX11_canGoOn_26 (by decide) ?_
    refine lv_goto (tgt := 31) hx hb dX11_canGoOn_27 (by decide) ?_
    have hP9 := hP.sub (ws' := [(h0, .inr (11, [.ref (a 1), .ref (a 2), .ref (a 3), .ref (a 4), .ref (a 5), .ref (a 6), .ref (a 7), .int 0, .ref (a 8), .int 0])), ((a 3), .inr (3, [.ref (a 1), .ref (a 2), .int 0, .ref (a 20), .ref (a 21), .ref (a 22), .ref (a 23), .ref (a 24), .ref (a 25), .ref (a 26), .ref (a 27), .ref (a 28)]))]) [0, 1] rfl
    have hD9 := hD.sub (ws' := [(h0, .inr (11, [.ref (a 1), .ref (a 2), .ref (a 3), .ref (a 4), .ref (a 5), .ref (a 6), .ref (a 7), .int 0, .ref (a 8), .int 0])), ((a 3), .inr (3, [.ref (a 1), .ref (a 2), .int 0, .ref (a 20), .ref (a 21), .ref (a 22), .ref (a 23), .ref (a 24), .ref (a 25), .ref (a 26), .ref (a 27), .ref (a 28)]))]) [0, 1] (by decide) rfl
    have hK9 := hK.sub (tys' := []) [] rfl
    exact W.zret (v := 1) hx hb hr (by decide) (fun t ht hW => ⟨⟨1, 1, rfl, rfl, Or.inl ⟨rfl, hf_3, hf_4, by rw [ht]; exact hP9, va_K.moved hW.alike hK9, hD9⟩⟩, hS.F ht⟩) hS.2.2 dX11_canGoOn_31
  · refine lq_top (v := 0) hre_5 ?_
    rw [ht] at hP1
    have hK1 := va_K.moved hvm.symm hK1
    obtain ⟨hP, hD⟩ := va_join (wr := [(h0, .inr (11, [.ref (a 1), .ref (a 2), .ref (a 3), .ref (a 4), .ref (a 5), .ref (a 6), .ref (a 7), .int 0, .ref (a 8), .int 0])), ((a 3), .inr (3, [.ref (a 1), .ref (a 2), .int 0, .ref (a 20), .ref (a 21), .ref (a 22), .ref (a 23), .ref (a 24), .ref (a 25), .ref (a 26), .ref (a 27), .ref (a 28)]))]) (w1 := []) hP hD [] [0, 1] rfl rfl (by decide) (by decide) hk1 hFc hP1 hD1
    have hK := (hK.sub (tys' := []) [] rfl).app hK1
    have hP : va_P (dC, dI) vwCl [(h0, .inr (11, [.ref (a 1), .ref (a 2), .ref (a 3), .ref (a 4), .ref (a 5), .ref (a 6), .ref (a 7), .int 0, .ref (a 8), .int 0])), ((a 3), .inr (3, [.ref (a 1), .ref (a 2), .int 0, .ref (a 20), .ref (a 21), .ref (a 22), .ref (a 23), .ref (a 24), .ref (a 25), .ref (a 26), .ref (a 27), .ref (a 28)]))] H := hP
    have hD : va_D A [(h0, .inr (11, [.ref (a 1), .ref (a 2), .ref (a 3), .ref (a 4), .ref (a 5), .ref (a 6), .ref (a 7), .int 0, .ref (a 8), .int 0])), ((a 3), .inr (3, [.ref (a 1), .ref (a 2), .int 0, .ref (a 20), .ref (a 21), .ref (a 22), .ref (a 23), .ref (a 24), .ref (a 25), .ref (a 26), .ref (a 27), .ref (a 28)]))] := hD
    have hK : va_K (dC, dI) vwCl [] s := hK
    refine lv_if_eq (tgt := 30) hx hb dX11_canGoOn_8 (by decide) (fun c_9 => ?_) (fun c_9 => absurd c_9 (fun z => z (by decide)))
    refine lv_iconst (v := 0) hx hb dX11_canGoOn_30 (by decide) ?_
    have hP9 := hP.sub (ws' := [(h0, .inr (11, [.ref (a 1), .ref (a 2), .ref (a 3), .ref (a 4), .ref (a 5), .ref (a 6), .ref (a 7), .int 0, .ref (a 8), .int 0])), ((a 3), .inr (3, [.ref (a 1), .ref (a 2), .int 0, .ref (a 20), .ref (a 21), .ref (a 22), .ref (a 23), .ref (a 24), .ref (a 25), .ref (a 26), .ref (a 27), .ref (a 28)]))]) [0, 1] rfl
    have hD9 := hD.sub (ws' := [(h0, .inr (11, [.ref (a 1), .ref (a 2), .ref (a 3), .ref (a 4), .ref (a 5), .ref (a 6), .ref (a 7), .int 0, .ref (a 8), .int 0])), ((a 3), .inr (3, [.ref (a 1), .ref (a 2), .int 0, .ref (a 20), .ref (a 21), .ref (a 22), .ref (a 23), .ref (a 24), .ref (a 25), .ref (a 26), .ref (a 27), .ref (a 28)]))]) [0, 1] (by decide) rfl
    have hK9 := hK.sub (tys' := []) [] rfl
    exact W.zret (v := 0) hx hb hr (by decide) (fun t ht hW => ⟨⟨0, 0, rfl, rfl, Or.inr (⟨rfl, hf_6, by rw [ht]; exact hP9, va_K.moved hW.alike hK9, hD9⟩)⟩, hS.F ht⟩) hS.2.2 dX11_canGoOn_31
def wo_c_canGoOn1 : List Cond := [.methodLink RX11 68 yX11_within, .static yX11_within, .initialized RX11, .fieldLink RX11 28 "TypingPool" "floor" "LTypingPool$Floor;", .fieldLink RX11 99 "TypingPool$Floor" "now" "I"]
def wm_c_canGoOn1 : List Cond := .code yX11_canGoOn cX11_canGoOn 3 (some .boolean) :: (wo_c_canGoOn1 ++ (wm_c_within ++ (wsX110 ++ (wsX30 ++ ([] : List Cond)))))
theorem gd_c_canGoOn1 : ∀ w ∈ wm_c_canGoOn1, goodWord w = true := gd_c rfl (gd_a (by decide) (gd_a gd_c_within (gd_a gd_wsX110 (gd_a gd_wsX30 gd_nil))))
set_option maxRecDepth 20000 in
theorem im_c_canGoOn1 : ∀ w ∈ wm_c_canGoOn1, w ∈ lw_tbl := im_c (in_r [.code yX11_canGoOn cX11_canGoOn 3 (some .boolean)] [750] (by decide +kernel)) (in_app (in_r wo_c_canGoOn1 [594, 595, 70, 561, 429] (by decide +kernel)) (in_app im_c_within (in_app im_wsX110 (in_app im_wsX30 im_nil))))
set_option maxHeartbeats 4000000 in
set_option maxRecDepth 100000 in
theorem c_canGoOn1 (l : Launch) (dC : Nat → ClassId) (dI : Nat → Nat → Nat) (ad av : Nat → Nat) (sz : Nat) (h0 : Nat) (a : Nat → Nat) (k : Nat → ClassId) (p0 : Int32) : Met l yX11_canGoOn wm_c_canGoOn1 ({ frames := 3, cells := 0, slots := 0, locals := 100 }) (pr_ ad av (dC, dI) sz [.ref h0, .int p0, .int 1] [(h0, .inr (11, [.ref (a 1), .ref (a 2), .ref (a 3), .ref (a 4), .ref (a 5), .ref (a 6), .ref (a 7), .int 0, .ref (a 8), .int 0])), ((a 3), .inr (3, [.ref (a 1), .ref (a 2), .int 0, .ref (a 20), .ref (a 21), .ref (a 22), .ref (a 23), .ref (a 24), .ref (a 25), .ref (a 26), .ref (a 27), .ref (a 28)]))] []) (va_Qi (fun (r u : Int32) => u = r) (fun (r : Int32) (t : State) => (r = 1 ∧ 1 ≤ p0 ∧ p0 ≤ 960 ∧ po_ (dC, dI) (va_A [(h0, .inr (11, [.ref (a 1), .ref (a 2), .ref (a 3), .ref (a 4), .ref (a 5), .ref (a 6), .ref (a 7), .int 0, .ref (a 8), .int 0])), ((a 3), .inr (3, [.ref (a 1), .ref (a 2), .int 0, .ref (a 20), .ref (a 21), .ref (a 22), .ref (a 23), .ref (a 24), .ref (a 25), .ref (a 26), .ref (a 27), .ref (a 28)]))] sz) [(h0, .inr (11, [.ref (a 1), .ref (a 2), .ref (a 3), .ref (a 4), .ref (a 5), .ref (a 6), .ref (a 7), .int 0, .ref (a 8), .int 0])), ((a 3), .inr (3, [.ref (a 1), .ref (a 2), .int 0, .ref (a 20), .ref (a 21), .ref (a 22), .ref (a 23), .ref (a 24), .ref (a 25), .ref (a 26), .ref (a 27), .ref (a 28)]))] [] t) ∨ (r = 0 ∧ ¬ (1 ≤ p0 ∧ p0 ≤ 960) ∧ po_ (dC, dI) (va_A [(h0, .inr (11, [.ref (a 1), .ref (a 2), .ref (a 3), .ref (a 4), .ref (a 5), .ref (a 6), .ref (a 7), .int 0, .ref (a 8), .int 0])), ((a 3), .inr (3, [.ref (a 1), .ref (a 2), .int 0, .ref (a 20), .ref (a 21), .ref (a 22), .ref (a 23), .ref (a 24), .ref (a 25), .ref (a 26), .ref (a 27), .ref (a 28)]))] sz) [(h0, .inr (11, [.ref (a 1), .ref (a 2), .ref (a 3), .ref (a 4), .ref (a 5), .ref (a 6), .ref (a 7), .int 0, .ref (a 8), .int 0])), ((a 3), .inr (3, [.ref (a 1), .ref (a 2), .int 0, .ref (a 20), .ref (a 21), .ref (a 22), .ref (a 23), .ref (a 24), .ref (a 25), .ref (a 26), .ref (a 27), .ref (a 28)]))] [] t)) (va_A [(h0, .inr (11, [.ref (a 1), .ref (a 2), .ref (a 3), .ref (a 4), .ref (a 5), .ref (a 6), .ref (a 7), .int 0, .ref (a 8), .int 0])), ((a 3), .inr (3, [.ref (a 1), .ref (a 2), .int 0, .ref (a 20), .ref (a 21), .ref (a 22), .ref (a 23), .ref (a 24), .ref (a 25), .ref (a 26), .ref (a 27), .ref (a 28)]))] sz)) 0 0 (va_A [(h0, .inr (11, [.ref (a 1), .ref (a 2), .ref (a 3), .ref (a 4), .ref (a 5), .ref (a 6), .ref (a 7), .int 0, .ref (a 8), .int 0])), ((a 3), .inr (3, [.ref (a 1), .ref (a 2), .int 0, .ref (a 20), .ref (a 21), .ref (a 22), .ref (a 23), .ref (a 24), .ref (a 25), .ref (a 26), .ref (a 27), .ref (a 28)]))] sz) := by
  refine Met.ofW (cc := cX11_canGoOn) (maxL := 3) (ret := (some .boolean)) (by decide) rfl ?_
  intro p e s m args below meth c s₁ B hml hv
  obtain ⟨rfl, hsz, hP, hK, hD0, hM⟩ := hv
  have hx := B.exec
  have hb := B.bytes
  have hr := B.returns
  have hts := atoms_spec (ws := wm_c_canGoOn1) B.pre
  have hown : s.vm.findClass RX11 = some m.cls := findClass_of_methodNamed B.named
  have hlocks := B.notSynchronized
  subst hsz
  have hD := hD0.self (sz := s.heap.size)
  generalize hAe : va_A [(h0, .inr (11, [.ref (a 1), .ref (a 2), .ref (a 3), .ref (a 4), .ref (a 5), .ref (a 6), .ref (a 7), .int 0, .ref (a 8), .int 0])), ((a 3), .inr (3, [.ref (a 1), .ref (a 2), .int 0, .ref (a 20), .ref (a 21), .ref (a 22), .ref (a 23), .ref (a 24), .ref (a 25), .ref (a 26), .ref (a 27), .ref (a 28)]))] s.heap.size = A at hD hM ⊢
  have hA : ∀ q : Nat, s.heap.size ≤ q → A q := fun q h => by rw [← hAe]; exact Or.inr h
  have hS : va_S A s.heap s.heap [] := va_S.rf
  have hP : va_P (dC, dI) vwCl [(h0, .inr (11, [.ref (a 1), .ref (a 2), .ref (a 3), .ref (a 4), .ref (a 5), .ref (a 6), .ref (a 7), .int 0, .ref (a 8), .int 0])), ((a 3), .inr (3, [.ref (a 1), .ref (a 2), .int 0, .ref (a 20), .ref (a 21), .ref (a 22), .ref (a 23), .ref (a 24), .ref (a 25), .ref (a 26), .ref (a 27), .ref (a 28)]))] s.heap := hP
  have hl := lv_entry ([.ref h0, .int p0, .int 1]) (n := 3) (Nat.le_of_ble_eq_true rfl)
  rw [lg_entry_eq]
  generalize (lg_sl ([.ref h0, .int p0, .int 1]) ++ List.replicate (3 - (lg_sl ([.ref h0, .int p0, .int 1])).length) Slot.unset).toArray = ls at hl ⊢
  have hl : lv_has ls 3 [(0, .ref h0), (1, .int p0), (2, .int 1)] := hl
  refine lv_iload_n hx hb dX11_canGoOn_0 rfl (lv_at hl 1 rfl) ?_
  refine lv_iload_n hx hb dX11_canGoOn_1 rfl (lv_at hl 2 rfl) ?_
  refine lv_sipush (v := 960) hx hb dX11_canGoOn_2 (by decide) ?_
  have hPc := hP.sub (ws' := []) [] rfl
  have hDc := hD.sub (ws' := []) [] (by decide) rfl
  have hKc := hK.sub (tys' := []) [] rfl
  have hFc := va_free (wc := []) hD hS hA [] rfl
  refine va_calli (va_runS (As := [.int p0, .int 1, .int 960]) (rest := []) ⟨hx, hb, hml, hown, hts⟩ (c_within l dC dI ad av s.heap.size p0 1 960 ) (va_cwS 3 hts (gi_3 (List.mem_cons_of_mem _ (List.mem_append_left _ (List.mem_of_getElem? (i := 0) rfl))) (List.mem_cons_of_mem _ (List.mem_append_left _ (List.mem_of_getElem? (i := 1) rfl))) (List.mem_cons_of_mem _ (List.mem_append_left _ (List.mem_of_getElem? (i := 2) rfl))) (fun _ hh => (List.mem_cons_of_mem _ (List.mem_append_right _ (List.mem_append_left _ hh)))) gd_c_within) rfl rfl rfl (by decide +kernel) ⟨Nat.le_of_ble_eq_true rfl, Nat.le_of_ble_eq_true rfl⟩) ⟨pr_blind, pr_use hPc hKc hDc hFc hS hM⟩ rfl rfl hl.1 rfl (lv_room (Nat.le_of_ble_eq_true rfl)) dX11_canGoOn_5 ⟨Nat.le_of_ble_eq_true rfl, Nat.le_of_ble_eq_true rfl⟩) hS (fun q _ h => hFc q h) hFc (fun r_10 u t H locs ht hvm hw hB hz1 hk1 hS => ?_)
  refine W.widen (k := 0) (n := 0) (Nat.le_of_ble_eq_true rfl) (Nat.le_of_ble_eq_true rfl) ?_
  subst hw
  rcases hB with ⟨hre_11, hf_12, hf_13, hP1, hK1, hD1⟩ | ⟨hre_14, hf_15, hP1, hK1, hD1⟩
  · refine lq_top (v := 1) hre_11 ?_
    rw [ht] at hP1
    have hK1 := va_K.moved hvm.symm hK1
    obtain ⟨hP, hD⟩ := va_join (wr := [(h0, .inr (11, [.ref (a 1), .ref (a 2), .ref (a 3), .ref (a 4), .ref (a 5), .ref (a 6), .ref (a 7), .int 0, .ref (a 8), .int 0])), ((a 3), .inr (3, [.ref (a 1), .ref (a 2), .int 0, .ref (a 20), .ref (a 21), .ref (a 22), .ref (a 23), .ref (a 24), .ref (a 25), .ref (a 26), .ref (a 27), .ref (a 28)]))]) (w1 := []) hP hD [] [0, 1] rfl rfl (by decide) (by decide) hk1 hFc hP1 hD1
    have hK := (hK.sub (tys' := []) [] rfl).app hK1
    have hP : va_P (dC, dI) vwCl [(h0, .inr (11, [.ref (a 1), .ref (a 2), .ref (a 3), .ref (a 4), .ref (a 5), .ref (a 6), .ref (a 7), .int 0, .ref (a 8), .int 0])), ((a 3), .inr (3, [.ref (a 1), .ref (a 2), .int 0, .ref (a 20), .ref (a 21), .ref (a 22), .ref (a 23), .ref (a 24), .ref (a 25), .ref (a 26), .ref (a 27), .ref (a 28)]))] H := hP
    have hD : va_D A [(h0, .inr (11, [.ref (a 1), .ref (a 2), .ref (a 3), .ref (a 4), .ref (a 5), .ref (a 6), .ref (a 7), .int 0, .ref (a 8), .int 0])), ((a 3), .inr (3, [.ref (a 1), .ref (a 2), .int 0, .ref (a 20), .ref (a 21), .ref (a 22), .ref (a 23), .ref (a 24), .ref (a 25), .ref (a 26), .ref (a 27), .ref (a 28)]))] := hD
    have hK : va_K (dC, dI) vwCl [] s := hK
    refine lv_if_eq (tgt := 30) hx hb dX11_canGoOn_8 (by decide) (fun c_16 => absurd c_16 (by decide)) (fun c_16 => ?_)
    refine lv_aload_n hx hb dX11_canGoOn_11 rfl (lv_at hl 0 rfl) ?_
    refine va_get (D := (dC, dI)) (ci := 11) (v := .ref (a 3)) (C := RX11) (T := TX11) (N := 10) hx hb hts (fun _ hh => (List.mem_cons_of_mem _ (List.mem_append_right _ (List.mem_append_right _ (List.mem_append_left _ hh))))) hown hK hP 0 rfl rfl 2 (by decide) (hts (.fieldLink RX11 28 "TypingPool" "floor" "LTypingPool$Floor;") (List.mem_cons_of_mem _ (List.mem_append_left _ (List.mem_of_getElem? (i := 3) rfl)))) (fun _ h9 => h9) rfl dX11_canGoOn_12 ?_
    refine va_get (D := (dC, dI)) (ci := 3) (v := .int 0) (C := RX3) (T := TX3) (N := 12) hx hb hts (fun _ hh => (List.mem_cons_of_mem _ (List.mem_append_right _ (List.mem_append_right _ (List.mem_append_right _ (List.mem_append_left _ hh)))))) hown hK hP 1 rfl rfl 2 (by decide) (hts (.fieldLink RX11 99 "TypingPool$Floor" "now" "I") (List.mem_cons_of_mem _ (List.mem_append_left _ (List.mem_of_getElem? (i := 4) rfl)))) (fun _ h9 => h9) rfl dX11_canGoOn_15 ?_
    refine lv_iload_n hx hb dX11_canGoOn_18 rfl (lv_at hl 1 rfl) ?_
    refine lv_iadd hx hb dX11_canGoOn_19 ?_
    refine lq_top (v := p0) (Int32.zero_add _) ?_
    refine lv_sipush (v := 4800) hx hb dX11_canGoOn_20 (by decide) ?_
    refine lv_icmp_gt (tgt := 30) hx hb dX11_canGoOn_23 (by decide) (fun c_17 => absurd c_17 (Int32.not_lt.mpr (Int32.le_trans hf_13 (by decide)))) (fun c_17 => ?_)
    refine lv_iconst (v := 1) hx hb dX11_canGoOn_26 (by decide) ?_
    refine lv_goto (tgt := 31) hx hb dX11_canGoOn_27 (by decide) ?_
    have hP9 := hP.sub (ws' := [(h0, .inr (11, [.ref (a 1), .ref (a 2), .ref (a 3), .ref (a 4), .ref (a 5), .ref (a 6), .ref (a 7), .int 0, .ref (a 8), .int 0])), ((a 3), .inr (3, [.ref (a 1), .ref (a 2), .int 0, .ref (a 20), .ref (a 21), .ref (a 22), .ref (a 23), .ref (a 24), .ref (a 25), .ref (a 26), .ref (a 27), .ref (a 28)]))]) [0, 1] rfl
    have hD9 := hD.sub (ws' := [(h0, .inr (11, [.ref (a 1), .ref (a 2), .ref (a 3), .ref (a 4), .ref (a 5), .ref (a 6), .ref (a 7), .int 0, .ref (a 8), .int 0])), ((a 3), .inr (3, [.ref (a 1), .ref (a 2), .int 0, .ref (a 20), .ref (a 21), .ref (a 22), .ref (a 23), .ref (a 24), .ref (a 25), .ref (a 26), .ref (a 27), .ref (a 28)]))]) [0, 1] (by decide) rfl
    have hK9 := hK.sub (tys' := []) [] rfl
    exact W.zret (v := 1) hx hb hr (by decide) (fun t ht hW => ⟨⟨1, 1, rfl, rfl, Or.inl ⟨rfl, hf_12, hf_13, by rw [ht]; exact hP9, va_K.moved hW.alike hK9, hD9⟩⟩, hS.F ht⟩) hS.2.2 dX11_canGoOn_31
  · refine lq_top (v := 0) hre_14 ?_
    rw [ht] at hP1
    have hK1 := va_K.moved hvm.symm hK1
    obtain ⟨hP, hD⟩ := va_join (wr := [(h0, .inr (11, [.ref (a 1), .ref (a 2), .ref (a 3), .ref (a 4), .ref (a 5), .ref (a 6), .ref (a 7), .int 0, .ref (a 8), .int 0])), ((a 3), .inr (3, [.ref (a 1), .ref (a 2), .int 0, .ref (a 20), .ref (a 21), .ref (a 22), .ref (a 23), .ref (a 24), .ref (a 25), .ref (a 26), .ref (a 27), .ref (a 28)]))]) (w1 := []) hP hD [] [0, 1] rfl rfl (by decide) (by decide) hk1 hFc hP1 hD1
    have hK := (hK.sub (tys' := []) [] rfl).app hK1
    have hP : va_P (dC, dI) vwCl [(h0, .inr (11, [.ref (a 1), .ref (a 2), .ref (a 3), .ref (a 4), .ref (a 5), .ref (a 6), .ref (a 7), .int 0, .ref (a 8), .int 0])), ((a 3), .inr (3, [.ref (a 1), .ref (a 2), .int 0, .ref (a 20), .ref (a 21), .ref (a 22), .ref (a 23), .ref (a 24), .ref (a 25), .ref (a 26), .ref (a 27), .ref (a 28)]))] H := hP
    have hD : va_D A [(h0, .inr (11, [.ref (a 1), .ref (a 2), .ref (a 3), .ref (a 4), .ref (a 5), .ref (a 6), .ref (a 7), .int 0, .ref (a 8), .int 0])), ((a 3), .inr (3, [.ref (a 1), .ref (a 2), .int 0, .ref (a 20), .ref (a 21), .ref (a 22), .ref (a 23), .ref (a 24), .ref (a 25), .ref (a 26), .ref (a 27), .ref (a 28)]))] := hD
    have hK : va_K (dC, dI) vwCl [] s := hK
    refine lv_if_eq (tgt := 30) hx hb dX11_canGoOn_8 (by decide) (fun c_18 => ?_) (fun c_18 => absurd c_18 (fun z => z (by decide)))
    refine lv_iconst (v := 0) hx hb dX11_canGoOn_30 (by decide) ?_
    have hP9 := hP.sub (ws' := [(h0, .inr (11, [.ref (a 1), .ref (a 2), .ref (a 3), .ref (a 4), .ref (a 5), .ref (a 6), .ref (a 7), .int 0, .ref (a 8), .int 0])), ((a 3), .inr (3, [.ref (a 1), .ref (a 2), .int 0, .ref (a 20), .ref (a 21), .ref (a 22), .ref (a 23), .ref (a 24), .ref (a 25), .ref (a 26), .ref (a 27), .ref (a 28)]))]) [0, 1] rfl
    have hD9 := hD.sub (ws' := [(h0, .inr (11, [.ref (a 1), .ref (a 2), .ref (a 3), .ref (a 4), .ref (a 5), .ref (a 6), .ref (a 7), .int 0, .ref (a 8), .int 0])), ((a 3), .inr (3, [.ref (a 1), .ref (a 2), .int 0, .ref (a 20), .ref (a 21), .ref (a 22), .ref (a 23), .ref (a 24), .ref (a 25), .ref (a 26), .ref (a 27), .ref (a 28)]))]) [0, 1] (by decide) rfl
    have hK9 := hK.sub (tys' := []) [] rfl
    exact W.zret (v := 0) hx hb hr (by decide) (fun t ht hW => ⟨⟨0, 0, rfl, rfl, Or.inr (⟨rfl, hf_15, by rw [ht]; exact hP9, va_K.moved hW.alike hK9, hD9⟩)⟩, hS.F ht⟩) hS.2.2 dX11_canGoOn_31
def wo_c_isTriable0 : List Cond := [.fieldLink RX10 17 "TypingPool$Rules" "count" "I"]
def wm_c_isTriable0 : List Cond := .code yX10_isTriable cX10_isTriable 2 (some .boolean) :: (wo_c_isTriable0 ++ (wsX100 ++ ([] : List Cond)))
theorem gd_c_isTriable0 : ∀ w ∈ wm_c_isTriable0, goodWord w = true := gd_c rfl (gd_a (by decide) (gd_a gd_wsX100 gd_nil))
set_option maxRecDepth 20000 in
theorem im_c_isTriable0 : ∀ w ∈ wm_c_isTriable0, w ∈ lw_tbl := im_c (in_r [.code yX10_isTriable cX10_isTriable 2 (some .boolean)] [1076] (by decide +kernel)) (in_app (in_r wo_c_isTriable0 [399] (by decide +kernel)) (in_app im_wsX100 im_nil))
set_option maxHeartbeats 4000000 in
set_option maxRecDepth 100000 in
theorem c_isTriable0 (l : Launch) (dC : Nat → ClassId) (dI : Nat → Nat → Nat) (ad av : Nat → Nat) (sz : Nat) (h0 : Nat) (r0 : Nat) (r1 : Nat) (r2 : Nat) (r3 : Nat) (r4 : Nat) (p0 : Int32) : Met l yX10_isTriable wm_c_isTriable0 ({ frames := 0, cells := 0, slots := 0, locals := 0 }) (pr_ ad av (dC, dI) sz [.ref h0, .int p0] [(h0, .inr (10, [.ref r0, .int 0, .ref r1, .ref r2, .ref r3, .ref r4]))] []) (va_Qi (fun (r u : Int32) => u = r) (fun (r : Int32) (t : State) => (r = 0 ∧ po_ (dC, dI) (va_A [(h0, .inr (10, [.ref r0, .int 0, .ref r1, .ref r2, .ref r3, .ref r4]))] sz) [(h0, .inr (10, [.ref r0, .int 0, .ref r1, .ref r2, .ref r3, .ref r4]))] [] t)) (va_A [(h0, .inr (10, [.ref r0, .int 0, .ref r1, .ref r2, .ref r3, .ref r4]))] sz)) 0 0 (va_A [(h0, .inr (10, [.ref r0, .int 0, .ref r1, .ref r2, .ref r3, .ref r4]))] sz) := by
  refine Met.ofW (cc := cX10_isTriable) (maxL := 2) (ret := (some .boolean)) (by decide) rfl ?_
  intro p e s m args below meth c s₁ B hml hv
  obtain ⟨rfl, hsz, hP, hK, hD0, hM⟩ := hv
  have hx := B.exec
  have hb := B.bytes
  have hr := B.returns
  have hts := atoms_spec (ws := wm_c_isTriable0) B.pre
  have hown : s.vm.findClass RX10 = some m.cls := findClass_of_methodNamed B.named
  have hlocks := B.notSynchronized
  subst hsz
  have hD := hD0.self (sz := s.heap.size)
  generalize hAe : va_A [(h0, .inr (10, [.ref r0, .int 0, .ref r1, .ref r2, .ref r3, .ref r4]))] s.heap.size = A at hD hM ⊢
  have hA : ∀ q : Nat, s.heap.size ≤ q → A q := fun q h => by rw [← hAe]; exact Or.inr h
  have hS : va_S A s.heap s.heap [] := va_S.rf
  have hP : va_P (dC, dI) vwCl [(h0, .inr (10, [.ref r0, .int 0, .ref r1, .ref r2, .ref r3, .ref r4]))] s.heap := hP
  have hl := lv_entry ([.ref h0, .int p0]) (n := 2) (Nat.le_of_ble_eq_true rfl)
  rw [lg_entry_eq]
  generalize (lg_sl ([.ref h0, .int p0]) ++ List.replicate (2 - (lg_sl ([.ref h0, .int p0])).length) Slot.unset).toArray = ls at hl ⊢
  have hl : lv_has ls 2 [(0, .ref h0), (1, .int p0)] := hl
  refine lv_iload_n hx hb dX10_isTriable_0 rfl (lv_at hl 1 rfl) ?_
  refine lv_if_lt (tgt := 41) hx hb dX10_isTriable_1 (by decide) (fun c_13 => ?_) (fun c_13 => ?_)
  · refine lv_iconst (v := 0) hx hb dX10_isTriable_41 (by decide) ?_
    have hP9 := hP.sub (ws' := [(h0, .inr (10, [.ref r0, .int 0, .ref r1, .ref r2, .ref r3, .ref r4]))]) [0] rfl
    have hD9 := hD.sub (ws' := [(h0, .inr (10, [.ref r0, .int 0, .ref r1, .ref r2, .ref r3, .ref r4]))]) [0] (by decide) rfl
    have hK9 := hK.sub (tys' := []) [] rfl
    exact W.zret (v := 0) hx hb hr (by decide) (fun t ht hW => ⟨⟨0, 0, rfl, rfl, ⟨rfl, by rw [ht]; exact hP9, va_K.moved hW.alike hK9, hD9⟩⟩, hS.F ht⟩) hS.2.2 dX10_isTriable_42
  · refine lv_iload_n hx hb dX10_isTriable_4 rfl (lv_at hl 1 rfl) ?_
    refine lv_aload_n hx hb dX10_isTriable_5 rfl (lv_at hl 0 rfl) ?_
    refine va_get (D := (dC, dI)) (ci := 10) (v := .int 0) (C := RX10) (T := TX10) (N := 6) hx hb hts (fun _ hh => (List.mem_cons_of_mem _ (List.mem_append_right _ (List.mem_append_left _ hh)))) hown hK hP 0 rfl rfl 1 (by decide) (hts (.fieldLink RX10 17 "TypingPool$Rules" "count" "I") (List.mem_cons_of_mem _ (List.mem_append_left _ (List.mem_of_getElem? (i := 0) rfl)))) (fun _ h9 => h9) rfl dX10_isTriable_6 ?_
    refine lv_icmp_ge (tgt := 41) hx hb dX10_isTriable_9 (by decide) (fun c_14 => ?_) (fun c_14 => absurd c_14 (fun z => z (Int32.not_lt.mp c_13)))
    refine lv_iconst (v := 0) hx hb dX10_isTriable_41 (by decide) ?_
    have hP9 := hP.sub (ws' := [(h0, .inr (10, [.ref r0, .int 0, .ref r1, .ref r2, .ref r3, .ref r4]))]) [0] rfl
    have hD9 := hD.sub (ws' := [(h0, .inr (10, [.ref r0, .int 0, .ref r1, .ref r2, .ref r3, .ref r4]))]) [0] (by decide) rfl
    have hK9 := hK.sub (tys' := []) [] rfl
    exact W.zret (v := 0) hx hb hr (by decide) (fun t ht hW => ⟨⟨0, 0, rfl, rfl, ⟨rfl, by rw [ht]; exact hP9, va_K.moved hW.alike hK9, hD9⟩⟩, hS.F ht⟩) hS.2.2 dX10_isTriable_42
def wo_c_takeOver0 : List Cond := [.fieldLink RX3 9 "TypingPool$Floor" "now" "I", .fieldLink RX3 15 "TypingPool$Floor" "has" "[I", .methodLink RX3 51 arraycopyName, .native arraycopyName, .static arraycopyName, .initialized "java/lang/System", .fieldLink RX3 19 "TypingPool$Floor" "rate" "[I", .fieldLink RX3 22 "TypingPool$Floor" "words" "[I", .fieldLink RX3 25 "TypingPool$Floor" "worked" "[I", .fieldLink RX3 28 "TypingPool$Floor" "by" "[I", .fieldLink RX3 31 "TypingPool$Floor" "taken" "[I", .fieldLink RX3 34 "TypingPool$Floor" "done" "[I", .fieldLink RX3 37 "TypingPool$Floor" "workLeft" "[I", .fieldLink RX3 40 "TypingPool$Floor" "knew" "[I"]
def wm_c_takeOver0 : List Cond := .code yX3_takeOver cX3_takeOver 2 none :: (wo_c_takeOver0 ++ (wsX30 ++ ([] : List Cond)))
theorem gd_c_takeOver0 : ∀ w ∈ wm_c_takeOver0, goodWord w = true := gd_c rfl (gd_a (by decide) (gd_a gd_wsX30 gd_nil))
set_option maxRecDepth 20000 in
theorem im_c_takeOver0 : ∀ w ∈ wm_c_takeOver0, w ∈ lw_tbl := im_c (in_r [.code yX3_takeOver cX3_takeOver 2 none] [1080] (by decide +kernel)) (in_app (in_r wo_c_takeOver0 [428, 431, 1081, 378, 377, 82, 434, 437, 440, 442, 444, 446, 449, 452] (by decide +kernel)) (in_app im_wsX30 im_nil))
set_option maxHeartbeats 4000000 in
set_option maxRecDepth 100000 in
theorem c_takeOver0 (l : Launch) (dC : Nat → ClassId) (dI : Nat → Nat → Nat) (ad av : Nat → Nat) (sz : Nat) (h0 : Nat) (h1 : Nat) (c0 : Nat) (c1 : Nat) (e0 : Nat) (e1 : Nat) (d0 : Nat) (d1 : Nat) (d2 : Nat) (d3 : Nat) (d4 : Nat) (d5 : Nat) (d6 : Nat) (d7 : Nat) (d8 : Nat) (u0 : Nat) (u1 : Nat) (u2 : Nat) (u3 : Nat) (u4 : Nat) (u5 : Nat) (u6 : Nat) (u7 : Nat) (u8 : Nat) (k0 : ClassId) (k1 : ClassId) (k2 : ClassId) (k3 : ClassId) (k4 : ClassId) (k5 : ClassId) (k6 : ClassId) (k7 : ClassId) (k8 : ClassId) (j0 : ClassId) (j1 : ClassId) (j2 : ClassId) (j3 : ClassId) (j4 : ClassId) (j5 : ClassId) (j6 : ClassId) (j7 : ClassId) (j8 : ClassId) (f0 : Nat → Int32) (f1 : Nat → Int32) (f2 : Nat → Int32) (f3 : Nat → Int32) (f4 : Nat → Int32) (f5 : Nat → Int32) (f6 : Nat → Int32) (f7 : Nat → Int32) (f8 : Nat → Int32) (g0 : Nat → Int32) (g1 : Nat → Int32) (g2 : Nat → Int32) (g3 : Nat → Int32) (g4 : Nat → Int32) (g5 : Nat → Int32) (g6 : Nat → Int32) (g7 : Nat → Int32) (g8 : Nat → Int32) : Met l yX3_takeOver wm_c_takeOver0 ({ frames := 2, cells := 0, slots := 0, locals := 100 }) (pr_ ad av (dC, dI) sz [.ref h0, .ref h1] [(h0, .inr (3, [.ref c0, .ref c1, .int 0, .ref d0, .ref d1, .ref d2, .ref d3, .ref d4, .ref d5, .ref d6, .ref d7, .ref d8])), (h1, .inr (3, [.ref e0, .ref e1, .int 0, .ref u0, .ref u1, .ref u2, .ref u3, .ref u4, .ref u5, .ref u6, .ref u7, .ref u8])), (d0, .inl (k0, 8, .inl f0)), (d1, .inl (k1, 8, .inl f1)), (d2, .inl (k2, 8, .inl f2)), (d3, .inl (k3, 8, .inl f3)), (d4, .inl (k4, 30, .inl f4)), (d5, .inl (k5, 30, .inl f5)), (d6, .inl (k6, 30, .inl f6)), (d7, .inl (k7, 30, .inl f7)), (d8, .inl (k8, 30, .inl f8)), (u0, .inl (j0, 8, .inl g0)), (u1, .inl (j1, 8, .inl g1)), (u2, .inl (j2, 8, .inl g2)), (u3, .inl (j3, 8, .inl g3)), (u4, .inl (j4, 30, .inl g4)), (u5, .inl (j5, 30, .inl g5)), (u6, .inl (j6, 30, .inl g6)), (u7, .inl (j7, 30, .inl g7)), (u8, .inl (j8, 30, .inl g8))] [(k0, .int), (k1, .int), (k2, .int), (k3, .int), (k4, .int), (k5, .int), (k6, .int), (k7, .int), (k8, .int), (j0, .int), (j1, .int), (j2, .int), (j3, .int), (j4, .int), (j5, .int), (j6, .int), (j7, .int), (j8, .int)]) (va_Qv (fun (_ : Unit) => True) (fun (_ : Unit) (t : State) => (po_ (dC, dI) (va_A [(h0, .inr (3, [.ref c0, .ref c1, .int 0, .ref d0, .ref d1, .ref d2, .ref d3, .ref d4, .ref d5, .ref d6, .ref d7, .ref d8])), (h1, .inr (3, [.ref e0, .ref e1, .int 0, .ref u0, .ref u1, .ref u2, .ref u3, .ref u4, .ref u5, .ref u6, .ref u7, .ref u8])), (d0, .inl (k0, 8, .inl f0)), (d1, .inl (k1, 8, .inl f1)), (d2, .inl (k2, 8, .inl f2)), (d3, .inl (k3, 8, .inl f3)), (d4, .inl (k4, 30, .inl f4)), (d5, .inl (k5, 30, .inl f5)), (d6, .inl (k6, 30, .inl f6)), (d7, .inl (k7, 30, .inl f7)), (d8, .inl (k8, 30, .inl f8)), (u0, .inl (j0, 8, .inl g0)), (u1, .inl (j1, 8, .inl g1)), (u2, .inl (j2, 8, .inl g2)), (u3, .inl (j3, 8, .inl g3)), (u4, .inl (j4, 30, .inl g4)), (u5, .inl (j5, 30, .inl g5)), (u6, .inl (j6, 30, .inl g6)), (u7, .inl (j7, 30, .inl g7)), (u8, .inl (j8, 30, .inl g8))] sz) [(h0, .inr (3, [.ref c0, .ref c1, .int 0, .ref d0, .ref d1, .ref d2, .ref d3, .ref d4, .ref d5, .ref d6, .ref d7, .ref d8])), (h1, .inr (3, [.ref e0, .ref e1, .int 0, .ref u0, .ref u1, .ref u2, .ref u3, .ref u4, .ref u5, .ref u6, .ref u7, .ref u8]))] [] t)) (va_A [(h0, .inr (3, [.ref c0, .ref c1, .int 0, .ref d0, .ref d1, .ref d2, .ref d3, .ref d4, .ref d5, .ref d6, .ref d7, .ref d8])), (h1, .inr (3, [.ref e0, .ref e1, .int 0, .ref u0, .ref u1, .ref u2, .ref u3, .ref u4, .ref u5, .ref u6, .ref u7, .ref u8])), (d0, .inl (k0, 8, .inl f0)), (d1, .inl (k1, 8, .inl f1)), (d2, .inl (k2, 8, .inl f2)), (d3, .inl (k3, 8, .inl f3)), (d4, .inl (k4, 30, .inl f4)), (d5, .inl (k5, 30, .inl f5)), (d6, .inl (k6, 30, .inl f6)), (d7, .inl (k7, 30, .inl f7)), (d8, .inl (k8, 30, .inl f8)), (u0, .inl (j0, 8, .inl g0)), (u1, .inl (j1, 8, .inl g1)), (u2, .inl (j2, 8, .inl g2)), (u3, .inl (j3, 8, .inl g3)), (u4, .inl (j4, 30, .inl g4)), (u5, .inl (j5, 30, .inl g5)), (u6, .inl (j6, 30, .inl g6)), (u7, .inl (j7, 30, .inl g7)), (u8, .inl (j8, 30, .inl g8))] sz)) 0 0 (va_A [(h0, .inr (3, [.ref c0, .ref c1, .int 0, .ref d0, .ref d1, .ref d2, .ref d3, .ref d4, .ref d5, .ref d6, .ref d7, .ref d8])), (h1, .inr (3, [.ref e0, .ref e1, .int 0, .ref u0, .ref u1, .ref u2, .ref u3, .ref u4, .ref u5, .ref u6, .ref u7, .ref u8])), (d0, .inl (k0, 8, .inl f0)), (d1, .inl (k1, 8, .inl f1)), (d2, .inl (k2, 8, .inl f2)), (d3, .inl (k3, 8, .inl f3)), (d4, .inl (k4, 30, .inl f4)), (d5, .inl (k5, 30, .inl f5)), (d6, .inl (k6, 30, .inl f6)), (d7, .inl (k7, 30, .inl f7)), (d8, .inl (k8, 30, .inl f8)), (u0, .inl (j0, 8, .inl g0)), (u1, .inl (j1, 8, .inl g1)), (u2, .inl (j2, 8, .inl g2)), (u3, .inl (j3, 8, .inl g3)), (u4, .inl (j4, 30, .inl g4)), (u5, .inl (j5, 30, .inl g5)), (u6, .inl (j6, 30, .inl g6)), (u7, .inl (j7, 30, .inl g7)), (u8, .inl (j8, 30, .inl g8))] sz) := by
  refine Met.ofW (cc := cX3_takeOver) (maxL := 2) (ret := none) (by decide) rfl ?_
  intro p e s m args below meth c s₁ B hml hv
  obtain ⟨rfl, hsz, hP, hK, hD0, hM⟩ := hv
  have hx := B.exec
  have hb := B.bytes
  have hr := B.returns
  have hts := atoms_spec (ws := wm_c_takeOver0) B.pre
  have hown : s.vm.findClass RX3 = some m.cls := findClass_of_methodNamed B.named
  have hlocks := B.notSynchronized
  subst hsz
  have hD := hD0.self (sz := s.heap.size)
  generalize hAe : va_A [(h0, .inr (3, [.ref c0, .ref c1, .int 0, .ref d0, .ref d1, .ref d2, .ref d3, .ref d4, .ref d5, .ref d6, .ref d7, .ref d8])), (h1, .inr (3, [.ref e0, .ref e1, .int 0, .ref u0, .ref u1, .ref u2, .ref u3, .ref u4, .ref u5, .ref u6, .ref u7, .ref u8])), (d0, .inl (k0, 8, .inl f0)), (d1, .inl (k1, 8, .inl f1)), (d2, .inl (k2, 8, .inl f2)), (d3, .inl (k3, 8, .inl f3)), (d4, .inl (k4, 30, .inl f4)), (d5, .inl (k5, 30, .inl f5)), (d6, .inl (k6, 30, .inl f6)), (d7, .inl (k7, 30, .inl f7)), (d8, .inl (k8, 30, .inl f8)), (u0, .inl (j0, 8, .inl g0)), (u1, .inl (j1, 8, .inl g1)), (u2, .inl (j2, 8, .inl g2)), (u3, .inl (j3, 8, .inl g3)), (u4, .inl (j4, 30, .inl g4)), (u5, .inl (j5, 30, .inl g5)), (u6, .inl (j6, 30, .inl g6)), (u7, .inl (j7, 30, .inl g7)), (u8, .inl (j8, 30, .inl g8))] s.heap.size = A at hD hM ⊢
  have hA : ∀ q : Nat, s.heap.size ≤ q → A q := fun q h => by rw [← hAe]; exact Or.inr h
  have hS : va_S A s.heap s.heap [] := va_S.rf
  have hP : va_P (dC, dI) vwCl [(h0, .inr (3, [.ref c0, .ref c1, .int 0, .ref d0, .ref d1, .ref d2, .ref d3, .ref d4, .ref d5, .ref d6, .ref d7, .ref d8])), (h1, .inr (3, [.ref e0, .ref e1, .int 0, .ref u0, .ref u1, .ref u2, .ref u3, .ref u4, .ref u5, .ref u6, .ref u7, .ref u8])), (d0, .inl (k0, 8, .inl f0)), (d1, .inl (k1, 8, .inl f1)), (d2, .inl (k2, 8, .inl f2)), (d3, .inl (k3, 8, .inl f3)), (d4, .inl (k4, 30, .inl f4)), (d5, .inl (k5, 30, .inl f5)), (d6, .inl (k6, 30, .inl f6)), (d7, .inl (k7, 30, .inl f7)), (d8, .inl (k8, 30, .inl f8)), (u0, .inl (j0, 8, .inl g0)), (u1, .inl (j1, 8, .inl g1)), (u2, .inl (j2, 8, .inl g2)), (u3, .inl (j3, 8, .inl g3)), (u4, .inl (j4, 30, .inl g4)), (u5, .inl (j5, 30, .inl g5)), (u6, .inl (j6, 30, .inl g6)), (u7, .inl (j7, 30, .inl g7)), (u8, .inl (j8, 30, .inl g8))] s.heap := hP
  have hl := lv_entry ([.ref h0, .ref h1]) (n := 2) (Nat.le_of_ble_eq_true rfl)
  rw [lg_entry_eq]
  generalize (lg_sl ([.ref h0, .ref h1]) ++ List.replicate (2 - (lg_sl ([.ref h0, .ref h1])).length) Slot.unset).toArray = ls at hl ⊢
  have hl : lv_has ls 2 [(0, .ref h0), (1, .ref h1)] := hl
  refine lv_aload_n hx hb dX3_takeOver_0 rfl (lv_at hl 0 rfl) ?_
  refine lv_aload_n hx hb dX3_takeOver_1 rfl (lv_at hl 1 rfl) ?_
  refine va_get (D := (dC, dI)) (ci := 3) (v := .int 0) (C := RX3) (T := TX3) (N := 12) hx hb hts (fun _ hh => (List.mem_cons_of_mem _ (List.mem_append_right _ (List.mem_append_left _ hh)))) hown hK hP 1 rfl rfl 2 (by decide) (hts (.fieldLink RX3 9 "TypingPool$Floor" "now" "I") (List.mem_cons_of_mem _ (List.mem_append_left _ (List.mem_of_getElem? (i := 0) rfl)))) (fun _ h9 => h9) rfl dX3_takeOver_2 ?_
  refine va_put (D := (dC, dI)) (ci := 3) (v := .int 0) (ty := .int) (C := RX3) (T := TX3) (N := 12) hx hb hts (fun _ hh => (List.mem_cons_of_mem _ (List.mem_append_right _ (List.mem_append_left _ hh)))) tyX3 tyX3_ok nmX3 hown hK hP hD hS 0 rfl rfl 2 (by decide) (hts (.fieldLink RX3 9 "TypingPool$Floor" "now" "I") (List.mem_cons_of_mem _ (List.mem_append_left _ (List.mem_of_getElem? (i := 0) rfl)))) (fun _ h9 => h9) rfl (tyX3_ok 2 (by decide)) rfl rfl (Nat.le_of_ble_eq_true rfl) dX3_takeOver_5 (fun H locs hP hD hS => ?_)
  have hP : va_P (dC, dI) vwCl [(h0, .inr (3, [.ref c0, .ref c1, .int 0, .ref d0, .ref d1, .ref d2, .ref d3, .ref d4, .ref d5, .ref d6, .ref d7, .ref d8])), (h1, .inr (3, [.ref e0, .ref e1, .int 0, .ref u0, .ref u1, .ref u2, .ref u3, .ref u4, .ref u5, .ref u6, .ref u7, .ref u8])), (d0, .inl (k0, 8, .inl f0)), (d1, .inl (k1, 8, .inl f1)), (d2, .inl (k2, 8, .inl f2)), (d3, .inl (k3, 8, .inl f3)), (d4, .inl (k4, 30, .inl f4)), (d5, .inl (k5, 30, .inl f5)), (d6, .inl (k6, 30, .inl f6)), (d7, .inl (k7, 30, .inl f7)), (d8, .inl (k8, 30, .inl f8)), (u0, .inl (j0, 8, .inl g0)), (u1, .inl (j1, 8, .inl g1)), (u2, .inl (j2, 8, .inl g2)), (u3, .inl (j3, 8, .inl g3)), (u4, .inl (j4, 30, .inl g4)), (u5, .inl (j5, 30, .inl g5)), (u6, .inl (j6, 30, .inl g6)), (u7, .inl (j7, 30, .inl g7)), (u8, .inl (j8, 30, .inl g8))] H := hP
  have hD : va_D A [(h0, .inr (3, [.ref c0, .ref c1, .int 0, .ref d0, .ref d1, .ref d2, .ref d3, .ref d4, .ref d5, .ref d6, .ref d7, .ref d8])), (h1, .inr (3, [.ref e0, .ref e1, .int 0, .ref u0, .ref u1, .ref u2, .ref u3, .ref u4, .ref u5, .ref u6, .ref u7, .ref u8])), (d0, .inl (k0, 8, .inl f0)), (d1, .inl (k1, 8, .inl f1)), (d2, .inl (k2, 8, .inl f2)), (d3, .inl (k3, 8, .inl f3)), (d4, .inl (k4, 30, .inl f4)), (d5, .inl (k5, 30, .inl f5)), (d6, .inl (k6, 30, .inl f6)), (d7, .inl (k7, 30, .inl f7)), (d8, .inl (k8, 30, .inl f8)), (u0, .inl (j0, 8, .inl g0)), (u1, .inl (j1, 8, .inl g1)), (u2, .inl (j2, 8, .inl g2)), (u3, .inl (j3, 8, .inl g3)), (u4, .inl (j4, 30, .inl g4)), (u5, .inl (j5, 30, .inl g5)), (u6, .inl (j6, 30, .inl g6)), (u7, .inl (j7, 30, .inl g7)), (u8, .inl (j8, 30, .inl g8))] := hD
  refine lv_aload_n hx hb dX3_takeOver_8 rfl (lv_at hl 1 rfl) ?_
  refine va_get (D := (dC, dI)) (ci := 3) (v := .ref u0) (C := RX3) (T := TX3) (N := 12) hx hb hts (fun _ hh => (List.mem_cons_of_mem _ (List.mem_append_right _ (List.mem_append_left _ hh)))) hown hK hP 1 rfl rfl 3 (by decide) (hts (.fieldLink RX3 15 "TypingPool$Floor" "has" "[I") (List.mem_cons_of_mem _ (List.mem_append_left _ (List.mem_of_getElem? (i := 1) rfl)))) (fun _ h9 => h9) rfl dX3_takeOver_9 ?_
  refine lv_iconst (v := 0) hx hb dX3_takeOver_12 (by decide) ?_
  refine lv_aload_n hx hb dX3_takeOver_13 rfl (lv_at hl 0 rfl) ?_
  refine va_get (D := (dC, dI)) (ci := 3) (v := .ref d0) (C := RX3) (T := TX3) (N := 12) hx hb hts (fun _ hh => (List.mem_cons_of_mem _ (List.mem_append_right _ (List.mem_append_left _ hh)))) hown hK hP 0 rfl rfl 3 (by decide) (hts (.fieldLink RX3 15 "TypingPool$Floor" "has" "[I") (List.mem_cons_of_mem _ (List.mem_append_left _ (List.mem_of_getElem? (i := 1) rfl)))) (fun _ h9 => h9) rfl dX3_takeOver_14 ?_
  refine lv_iconst (v := 0) hx hb dX3_takeOver_17 (by decide) ?_
  refine lv_bipush (v := 8) hx hb dX3_takeOver_18 (by decide) ?_
  refine va_copyi (ty := .int) hx hb (by rw [hml]; exact hl.1.symm) hown (hts (.methodLink RX3 51 arraycopyName) (List.mem_cons_of_mem _ (List.mem_append_left _ (List.mem_of_getElem? (i := 2) rfl)))) (hts (.native arraycopyName) (List.mem_cons_of_mem _ (List.mem_append_left _ (List.mem_of_getElem? (i := 3) rfl)))) (hts (.static arraycopyName) (List.mem_cons_of_mem _ (List.mem_append_left _ (List.mem_of_getElem? (i := 4) rfl)))) (hts (.initialized "java/lang/System") (List.mem_cons_of_mem _ (List.mem_append_left _ (List.mem_of_getElem? (i := 5) rfl)))) hK hP hD hS 11 2 9 0 rfl rfl rfl rfl rfl (by decide) (by decide) (by decide) (by decide) (by decide) (fun i hi => rfl) (Nat.le_of_ble_eq_true rfl) (Nat.le_of_ble_eq_true rfl) dX3_takeOver_20 (fun H locs hP hD hS => ?_)
  obtain ⟨f_15, ef_15⟩ : ∃ y : Nat → Int32, y = va_cpy g0 f0 (0 : Int32).toNatClampNeg (0 : Int32).toNatClampNeg (8 : Int32).toNatClampNeg := ⟨_, rfl⟩
  have hP : va_P (dC, dI) vwCl [(h0, .inr (3, [.ref c0, .ref c1, .int 0, .ref d0, .ref d1, .ref d2, .ref d3, .ref d4, .ref d5, .ref d6, .ref d7, .ref d8])), (h1, .inr (3, [.ref e0, .ref e1, .int 0, .ref u0, .ref u1, .ref u2, .ref u3, .ref u4, .ref u5, .ref u6, .ref u7, .ref u8])), (d0, .inl (k0, 8, .inl f_15)), (d1, .inl (k1, 8, .inl f1)), (d2, .inl (k2, 8, .inl f2)), (d3, .inl (k3, 8, .inl f3)), (d4, .inl (k4, 30, .inl f4)), (d5, .inl (k5, 30, .inl f5)), (d6, .inl (k6, 30, .inl f6)), (d7, .inl (k7, 30, .inl f7)), (d8, .inl (k8, 30, .inl f8)), (u0, .inl (j0, 8, .inl g0)), (u1, .inl (j1, 8, .inl g1)), (u2, .inl (j2, 8, .inl g2)), (u3, .inl (j3, 8, .inl g3)), (u4, .inl (j4, 30, .inl g4)), (u5, .inl (j5, 30, .inl g5)), (u6, .inl (j6, 30, .inl g6)), (u7, .inl (j7, 30, .inl g7)), (u8, .inl (j8, 30, .inl g8))] H := by rw [ef_15]; exact hP
  have hD : va_D A [(h0, .inr (3, [.ref c0, .ref c1, .int 0, .ref d0, .ref d1, .ref d2, .ref d3, .ref d4, .ref d5, .ref d6, .ref d7, .ref d8])), (h1, .inr (3, [.ref e0, .ref e1, .int 0, .ref u0, .ref u1, .ref u2, .ref u3, .ref u4, .ref u5, .ref u6, .ref u7, .ref u8])), (d0, .inl (k0, 8, .inl f_15)), (d1, .inl (k1, 8, .inl f1)), (d2, .inl (k2, 8, .inl f2)), (d3, .inl (k3, 8, .inl f3)), (d4, .inl (k4, 30, .inl f4)), (d5, .inl (k5, 30, .inl f5)), (d6, .inl (k6, 30, .inl f6)), (d7, .inl (k7, 30, .inl f7)), (d8, .inl (k8, 30, .inl f8)), (u0, .inl (j0, 8, .inl g0)), (u1, .inl (j1, 8, .inl g1)), (u2, .inl (j2, 8, .inl g2)), (u3, .inl (j3, 8, .inl g3)), (u4, .inl (j4, 30, .inl g4)), (u5, .inl (j5, 30, .inl g5)), (u6, .inl (j6, 30, .inl g6)), (u7, .inl (j7, 30, .inl g7)), (u8, .inl (j8, 30, .inl g8))] := by rw [ef_15]; exact hD
  refine lv_aload_n hx hb dX3_takeOver_23 rfl (lv_at hl 1 rfl) ?_
  refine va_get (D := (dC, dI)) (ci := 3) (v := .ref u1) (C := RX3) (T := TX3) (N := 12) hx hb hts (fun _ hh => (List.mem_cons_of_mem _ (List.mem_append_right _ (List.mem_append_left _ hh)))) hown hK hP 1 rfl rfl 4 (by decide) (hts (.fieldLink RX3 19 "TypingPool$Floor" "rate" "[I") (List.mem_cons_of_mem _ (List.mem_append_left _ (List.mem_of_getElem? (i := 6) rfl)))) (fun _ h9 => h9) rfl dX3_takeOver_24 ?_
  refine lv_iconst (v := 0) hx hb dX3_takeOver_27 (by decide) ?_
  refine lv_aload_n hx hb dX3_takeOver_28 rfl (lv_at hl 0 rfl) ?_
  refine va_get (D := (dC, dI)) (ci := 3) (v := .ref d1) (C := RX3) (T := TX3) (N := 12) hx hb hts (fun _ hh => (List.mem_cons_of_mem _ (List.mem_append_right _ (List.mem_append_left _ hh)))) hown hK hP 0 rfl rfl 4 (by decide) (hts (.fieldLink RX3 19 "TypingPool$Floor" "rate" "[I") (List.mem_cons_of_mem _ (List.mem_append_left _ (List.mem_of_getElem? (i := 6) rfl)))) (fun _ h9 => h9) rfl dX3_takeOver_29 ?_
  refine lv_iconst (v := 0) hx hb dX3_takeOver_32 (by decide) ?_
  refine lv_bipush (v := 8) hx hb dX3_takeOver_33 (by decide) ?_
  refine va_copyi (ty := .int) hx hb (by rw [hml]; exact hl.1.symm) hown (hts (.methodLink RX3 51 arraycopyName) (List.mem_cons_of_mem _ (List.mem_append_left _ (List.mem_of_getElem? (i := 2) rfl)))) (hts (.native arraycopyName) (List.mem_cons_of_mem _ (List.mem_append_left _ (List.mem_of_getElem? (i := 3) rfl)))) (hts (.static arraycopyName) (List.mem_cons_of_mem _ (List.mem_append_left _ (List.mem_of_getElem? (i := 4) rfl)))) (hts (.initialized "java/lang/System") (List.mem_cons_of_mem _ (List.mem_append_left _ (List.mem_of_getElem? (i := 5) rfl)))) hK hP hD hS 12 3 10 1 rfl rfl rfl rfl rfl (by decide) (by decide) (by decide) (by decide) (by decide) (fun i hi => rfl) (Nat.le_of_ble_eq_true rfl) (Nat.le_of_ble_eq_true rfl) dX3_takeOver_35 (fun H locs hP hD hS => ?_)
  obtain ⟨f_16, ef_16⟩ : ∃ y : Nat → Int32, y = va_cpy g1 f1 (0 : Int32).toNatClampNeg (0 : Int32).toNatClampNeg (8 : Int32).toNatClampNeg := ⟨_, rfl⟩
  have hP : va_P (dC, dI) vwCl [(h0, .inr (3, [.ref c0, .ref c1, .int 0, .ref d0, .ref d1, .ref d2, .ref d3, .ref d4, .ref d5, .ref d6, .ref d7, .ref d8])), (h1, .inr (3, [.ref e0, .ref e1, .int 0, .ref u0, .ref u1, .ref u2, .ref u3, .ref u4, .ref u5, .ref u6, .ref u7, .ref u8])), (d0, .inl (k0, 8, .inl f_15)), (d1, .inl (k1, 8, .inl f_16)), (d2, .inl (k2, 8, .inl f2)), (d3, .inl (k3, 8, .inl f3)), (d4, .inl (k4, 30, .inl f4)), (d5, .inl (k5, 30, .inl f5)), (d6, .inl (k6, 30, .inl f6)), (d7, .inl (k7, 30, .inl f7)), (d8, .inl (k8, 30, .inl f8)), (u0, .inl (j0, 8, .inl g0)), (u1, .inl (j1, 8, .inl g1)), (u2, .inl (j2, 8, .inl g2)), (u3, .inl (j3, 8, .inl g3)), (u4, .inl (j4, 30, .inl g4)), (u5, .inl (j5, 30, .inl g5)), (u6, .inl (j6, 30, .inl g6)), (u7, .inl (j7, 30, .inl g7)), (u8, .inl (j8, 30, .inl g8))] H := by rw [ef_16]; exact hP
  have hD : va_D A [(h0, .inr (3, [.ref c0, .ref c1, .int 0, .ref d0, .ref d1, .ref d2, .ref d3, .ref d4, .ref d5, .ref d6, .ref d7, .ref d8])), (h1, .inr (3, [.ref e0, .ref e1, .int 0, .ref u0, .ref u1, .ref u2, .ref u3, .ref u4, .ref u5, .ref u6, .ref u7, .ref u8])), (d0, .inl (k0, 8, .inl f_15)), (d1, .inl (k1, 8, .inl f_16)), (d2, .inl (k2, 8, .inl f2)), (d3, .inl (k3, 8, .inl f3)), (d4, .inl (k4, 30, .inl f4)), (d5, .inl (k5, 30, .inl f5)), (d6, .inl (k6, 30, .inl f6)), (d7, .inl (k7, 30, .inl f7)), (d8, .inl (k8, 30, .inl f8)), (u0, .inl (j0, 8, .inl g0)), (u1, .inl (j1, 8, .inl g1)), (u2, .inl (j2, 8, .inl g2)), (u3, .inl (j3, 8, .inl g3)), (u4, .inl (j4, 30, .inl g4)), (u5, .inl (j5, 30, .inl g5)), (u6, .inl (j6, 30, .inl g6)), (u7, .inl (j7, 30, .inl g7)), (u8, .inl (j8, 30, .inl g8))] := by rw [ef_16]; exact hD
  refine lv_aload_n hx hb dX3_takeOver_38 rfl (lv_at hl 1 rfl) ?_
  refine va_get (D := (dC, dI)) (ci := 3) (v := .ref u2) (C := RX3) (T := TX3) (N := 12) hx hb hts (fun _ hh => (List.mem_cons_of_mem _ (List.mem_append_right _ (List.mem_append_left _ hh)))) hown hK hP 1 rfl rfl 5 (by decide) (hts (.fieldLink RX3 22 "TypingPool$Floor" "words" "[I") (List.mem_cons_of_mem _ (List.mem_append_left _ (List.mem_of_getElem? (i := 7) rfl)))) (fun _ h9 => h9) rfl dX3_takeOver_39 ?_
  refine lv_iconst (v := 0) hx hb dX3_takeOver_42 (by decide) ?_
  refine lv_aload_n hx hb dX3_takeOver_43 rfl (lv_at hl 0 rfl) ?_
  refine va_get (D := (dC, dI)) (ci := 3) (v := .ref d2) (C := RX3) (T := TX3) (N := 12) hx hb hts (fun _ hh => (List.mem_cons_of_mem _ (List.mem_append_right _ (List.mem_append_left _ hh)))) hown hK hP 0 rfl rfl 5 (by decide) (hts (.fieldLink RX3 22 "TypingPool$Floor" "words" "[I") (List.mem_cons_of_mem _ (List.mem_append_left _ (List.mem_of_getElem? (i := 7) rfl)))) (fun _ h9 => h9) rfl dX3_takeOver_44 ?_
  refine lv_iconst (v := 0) hx hb dX3_takeOver_47 (by decide) ?_
  refine lv_bipush (v := 8) hx hb dX3_takeOver_48 (by decide) ?_
  refine va_copyi (ty := .int) hx hb (by rw [hml]; exact hl.1.symm) hown (hts (.methodLink RX3 51 arraycopyName) (List.mem_cons_of_mem _ (List.mem_append_left _ (List.mem_of_getElem? (i := 2) rfl)))) (hts (.native arraycopyName) (List.mem_cons_of_mem _ (List.mem_append_left _ (List.mem_of_getElem? (i := 3) rfl)))) (hts (.static arraycopyName) (List.mem_cons_of_mem _ (List.mem_append_left _ (List.mem_of_getElem? (i := 4) rfl)))) (hts (.initialized "java/lang/System") (List.mem_cons_of_mem _ (List.mem_append_left _ (List.mem_of_getElem? (i := 5) rfl)))) hK hP hD hS 13 4 11 2 rfl rfl rfl rfl rfl (by decide) (by decide) (by decide) (by decide) (by decide) (fun i hi => rfl) (Nat.le_of_ble_eq_true rfl) (Nat.le_of_ble_eq_true rfl) dX3_takeOver_50 (fun H locs hP hD hS => ?_)
  obtain ⟨f_17, ef_17⟩ : ∃ y : Nat → Int32, y = va_cpy g2 f2 (0 : Int32).toNatClampNeg (0 : Int32).toNatClampNeg (8 : Int32).toNatClampNeg := ⟨_, rfl⟩
  have hP : va_P (dC, dI) vwCl [(h0, .inr (3, [.ref c0, .ref c1, .int 0, .ref d0, .ref d1, .ref d2, .ref d3, .ref d4, .ref d5, .ref d6, .ref d7, .ref d8])), (h1, .inr (3, [.ref e0, .ref e1, .int 0, .ref u0, .ref u1, .ref u2, .ref u3, .ref u4, .ref u5, .ref u6, .ref u7, .ref u8])), (d0, .inl (k0, 8, .inl f_15)), (d1, .inl (k1, 8, .inl f_16)), (d2, .inl (k2, 8, .inl f_17)), (d3, .inl (k3, 8, .inl f3)), (d4, .inl (k4, 30, .inl f4)), (d5, .inl (k5, 30, .inl f5)), (d6, .inl (k6, 30, .inl f6)), (d7, .inl (k7, 30, .inl f7)), (d8, .inl (k8, 30, .inl f8)), (u0, .inl (j0, 8, .inl g0)), (u1, .inl (j1, 8, .inl g1)), (u2, .inl (j2, 8, .inl g2)), (u3, .inl (j3, 8, .inl g3)), (u4, .inl (j4, 30, .inl g4)), (u5, .inl (j5, 30, .inl g5)), (u6, .inl (j6, 30, .inl g6)), (u7, .inl (j7, 30, .inl g7)), (u8, .inl (j8, 30, .inl g8))] H := by rw [ef_17]; exact hP
  have hD : va_D A [(h0, .inr (3, [.ref c0, .ref c1, .int 0, .ref d0, .ref d1, .ref d2, .ref d3, .ref d4, .ref d5, .ref d6, .ref d7, .ref d8])), (h1, .inr (3, [.ref e0, .ref e1, .int 0, .ref u0, .ref u1, .ref u2, .ref u3, .ref u4, .ref u5, .ref u6, .ref u7, .ref u8])), (d0, .inl (k0, 8, .inl f_15)), (d1, .inl (k1, 8, .inl f_16)), (d2, .inl (k2, 8, .inl f_17)), (d3, .inl (k3, 8, .inl f3)), (d4, .inl (k4, 30, .inl f4)), (d5, .inl (k5, 30, .inl f5)), (d6, .inl (k6, 30, .inl f6)), (d7, .inl (k7, 30, .inl f7)), (d8, .inl (k8, 30, .inl f8)), (u0, .inl (j0, 8, .inl g0)), (u1, .inl (j1, 8, .inl g1)), (u2, .inl (j2, 8, .inl g2)), (u3, .inl (j3, 8, .inl g3)), (u4, .inl (j4, 30, .inl g4)), (u5, .inl (j5, 30, .inl g5)), (u6, .inl (j6, 30, .inl g6)), (u7, .inl (j7, 30, .inl g7)), (u8, .inl (j8, 30, .inl g8))] := by rw [ef_17]; exact hD
  refine lv_aload_n hx hb dX3_takeOver_53 rfl (lv_at hl 1 rfl) ?_
  refine va_get (D := (dC, dI)) (ci := 3) (v := .ref u3) (C := RX3) (T := TX3) (N := 12) hx hb hts (fun _ hh => (List.mem_cons_of_mem _ (List.mem_append_right _ (List.mem_append_left _ hh)))) hown hK hP 1 rfl rfl 6 (by decide) (hts (.fieldLink RX3 25 "TypingPool$Floor" "worked" "[I") (List.mem_cons_of_mem _ (List.mem_append_left _ (List.mem_of_getElem? (i := 8) rfl)))) (fun _ h9 => h9) rfl dX3_takeOver_54 ?_
  refine lv_iconst (v := 0) hx hb dX3_takeOver_57 (by decide) ?_
  refine lv_aload_n hx hb dX3_takeOver_58 rfl (lv_at hl 0 rfl) ?_
  refine va_get (D := (dC, dI)) (ci := 3) (v := .ref d3) (C := RX3) (T := TX3) (N := 12) hx hb hts (fun _ hh => (List.mem_cons_of_mem _ (List.mem_append_right _ (List.mem_append_left _ hh)))) hown hK hP 0 rfl rfl 6 (by decide) (hts (.fieldLink RX3 25 "TypingPool$Floor" "worked" "[I") (List.mem_cons_of_mem _ (List.mem_append_left _ (List.mem_of_getElem? (i := 8) rfl)))) (fun _ h9 => h9) rfl dX3_takeOver_59 ?_
  refine lv_iconst (v := 0) hx hb dX3_takeOver_62 (by decide) ?_
  refine lv_bipush (v := 8) hx hb dX3_takeOver_63 (by decide) ?_
  refine va_copyi (ty := .int) hx hb (by rw [hml]; exact hl.1.symm) hown (hts (.methodLink RX3 51 arraycopyName) (List.mem_cons_of_mem _ (List.mem_append_left _ (List.mem_of_getElem? (i := 2) rfl)))) (hts (.native arraycopyName) (List.mem_cons_of_mem _ (List.mem_append_left _ (List.mem_of_getElem? (i := 3) rfl)))) (hts (.static arraycopyName) (List.mem_cons_of_mem _ (List.mem_append_left _ (List.mem_of_getElem? (i := 4) rfl)))) (hts (.initialized "java/lang/System") (List.mem_cons_of_mem _ (List.mem_append_left _ (List.mem_of_getElem? (i := 5) rfl)))) hK hP hD hS 14 5 12 3 rfl rfl rfl rfl rfl (by decide) (by decide) (by decide) (by decide) (by decide) (fun i hi => rfl) (Nat.le_of_ble_eq_true rfl) (Nat.le_of_ble_eq_true rfl) dX3_takeOver_65 (fun H locs hP hD hS => ?_)
  obtain ⟨f_18, ef_18⟩ : ∃ y : Nat → Int32, y = va_cpy g3 f3 (0 : Int32).toNatClampNeg (0 : Int32).toNatClampNeg (8 : Int32).toNatClampNeg := ⟨_, rfl⟩
  have hP : va_P (dC, dI) vwCl [(h0, .inr (3, [.ref c0, .ref c1, .int 0, .ref d0, .ref d1, .ref d2, .ref d3, .ref d4, .ref d5, .ref d6, .ref d7, .ref d8])), (h1, .inr (3, [.ref e0, .ref e1, .int 0, .ref u0, .ref u1, .ref u2, .ref u3, .ref u4, .ref u5, .ref u6, .ref u7, .ref u8])), (d0, .inl (k0, 8, .inl f_15)), (d1, .inl (k1, 8, .inl f_16)), (d2, .inl (k2, 8, .inl f_17)), (d3, .inl (k3, 8, .inl f_18)), (d4, .inl (k4, 30, .inl f4)), (d5, .inl (k5, 30, .inl f5)), (d6, .inl (k6, 30, .inl f6)), (d7, .inl (k7, 30, .inl f7)), (d8, .inl (k8, 30, .inl f8)), (u0, .inl (j0, 8, .inl g0)), (u1, .inl (j1, 8, .inl g1)), (u2, .inl (j2, 8, .inl g2)), (u3, .inl (j3, 8, .inl g3)), (u4, .inl (j4, 30, .inl g4)), (u5, .inl (j5, 30, .inl g5)), (u6, .inl (j6, 30, .inl g6)), (u7, .inl (j7, 30, .inl g7)), (u8, .inl (j8, 30, .inl g8))] H := by rw [ef_18]; exact hP
  have hD : va_D A [(h0, .inr (3, [.ref c0, .ref c1, .int 0, .ref d0, .ref d1, .ref d2, .ref d3, .ref d4, .ref d5, .ref d6, .ref d7, .ref d8])), (h1, .inr (3, [.ref e0, .ref e1, .int 0, .ref u0, .ref u1, .ref u2, .ref u3, .ref u4, .ref u5, .ref u6, .ref u7, .ref u8])), (d0, .inl (k0, 8, .inl f_15)), (d1, .inl (k1, 8, .inl f_16)), (d2, .inl (k2, 8, .inl f_17)), (d3, .inl (k3, 8, .inl f_18)), (d4, .inl (k4, 30, .inl f4)), (d5, .inl (k5, 30, .inl f5)), (d6, .inl (k6, 30, .inl f6)), (d7, .inl (k7, 30, .inl f7)), (d8, .inl (k8, 30, .inl f8)), (u0, .inl (j0, 8, .inl g0)), (u1, .inl (j1, 8, .inl g1)), (u2, .inl (j2, 8, .inl g2)), (u3, .inl (j3, 8, .inl g3)), (u4, .inl (j4, 30, .inl g4)), (u5, .inl (j5, 30, .inl g5)), (u6, .inl (j6, 30, .inl g6)), (u7, .inl (j7, 30, .inl g7)), (u8, .inl (j8, 30, .inl g8))] := by rw [ef_18]; exact hD
  refine lv_aload_n hx hb dX3_takeOver_68 rfl (lv_at hl 1 rfl) ?_
  refine va_get (D := (dC, dI)) (ci := 3) (v := .ref u4) (C := RX3) (T := TX3) (N := 12) hx hb hts (fun _ hh => (List.mem_cons_of_mem _ (List.mem_append_right _ (List.mem_append_left _ hh)))) hown hK hP 1 rfl rfl 7 (by decide) (hts (.fieldLink RX3 28 "TypingPool$Floor" "by" "[I") (List.mem_cons_of_mem _ (List.mem_append_left _ (List.mem_of_getElem? (i := 9) rfl)))) (fun _ h9 => h9) rfl dX3_takeOver_69 ?_
  refine lv_iconst (v := 0) hx hb dX3_takeOver_72 (by decide) ?_
  refine lv_aload_n hx hb dX3_takeOver_73 rfl (lv_at hl 0 rfl) ?_
  refine va_get (D := (dC, dI)) (ci := 3) (v := .ref d4) (C := RX3) (T := TX3) (N := 12) hx hb hts (fun _ hh => (List.mem_cons_of_mem _ (List.mem_append_right _ (List.mem_append_left _ hh)))) hown hK hP 0 rfl rfl 7 (by decide) (hts (.fieldLink RX3 28 "TypingPool$Floor" "by" "[I") (List.mem_cons_of_mem _ (List.mem_append_left _ (List.mem_of_getElem? (i := 9) rfl)))) (fun _ h9 => h9) rfl dX3_takeOver_74 ?_
  refine lv_iconst (v := 0) hx hb dX3_takeOver_77 (by decide) ?_
  refine lv_bipush (v := 30) hx hb dX3_takeOver_78 (by decide) ?_
  refine va_copyi (ty := .int) hx hb (by rw [hml]; exact hl.1.symm) hown (hts (.methodLink RX3 51 arraycopyName) (List.mem_cons_of_mem _ (List.mem_append_left _ (List.mem_of_getElem? (i := 2) rfl)))) (hts (.native arraycopyName) (List.mem_cons_of_mem _ (List.mem_append_left _ (List.mem_of_getElem? (i := 3) rfl)))) (hts (.static arraycopyName) (List.mem_cons_of_mem _ (List.mem_append_left _ (List.mem_of_getElem? (i := 4) rfl)))) (hts (.initialized "java/lang/System") (List.mem_cons_of_mem _ (List.mem_append_left _ (List.mem_of_getElem? (i := 5) rfl)))) hK hP hD hS 15 6 13 4 rfl rfl rfl rfl rfl (by decide) (by decide) (by decide) (by decide) (by decide) (fun i hi => rfl) (Nat.le_of_ble_eq_true rfl) (Nat.le_of_ble_eq_true rfl) dX3_takeOver_80 (fun H locs hP hD hS => ?_)
  obtain ⟨f_19, ef_19⟩ : ∃ y : Nat → Int32, y = va_cpy g4 f4 (0 : Int32).toNatClampNeg (0 : Int32).toNatClampNeg (30 : Int32).toNatClampNeg := ⟨_, rfl⟩
  have hP : va_P (dC, dI) vwCl [(h0, .inr (3, [.ref c0, .ref c1, .int 0, .ref d0, .ref d1, .ref d2, .ref d3, .ref d4, .ref d5, .ref d6, .ref d7, .ref d8])), (h1, .inr (3, [.ref e0, .ref e1, .int 0, .ref u0, .ref u1, .ref u2, .ref u3, .ref u4, .ref u5, .ref u6, .ref u7, .ref u8])), (d0, .inl (k0, 8, .inl f_15)), (d1, .inl (k1, 8, .inl f_16)), (d2, .inl (k2, 8, .inl f_17)), (d3, .inl (k3, 8, .inl f_18)), (d4, .inl (k4, 30, .inl f_19)), (d5, .inl (k5, 30, .inl f5)), (d6, .inl (k6, 30, .inl f6)), (d7, .inl (k7, 30, .inl f7)), (d8, .inl (k8, 30, .inl f8)), (u0, .inl (j0, 8, .inl g0)), (u1, .inl (j1, 8, .inl g1)), (u2, .inl (j2, 8, .inl g2)), (u3, .inl (j3, 8, .inl g3)), (u4, .inl (j4, 30, .inl g4)), (u5, .inl (j5, 30, .inl g5)), (u6, .inl (j6, 30, .inl g6)), (u7, .inl (j7, 30, .inl g7)), (u8, .inl (j8, 30, .inl g8))] H := by rw [ef_19]; exact hP
  have hD : va_D A [(h0, .inr (3, [.ref c0, .ref c1, .int 0, .ref d0, .ref d1, .ref d2, .ref d3, .ref d4, .ref d5, .ref d6, .ref d7, .ref d8])), (h1, .inr (3, [.ref e0, .ref e1, .int 0, .ref u0, .ref u1, .ref u2, .ref u3, .ref u4, .ref u5, .ref u6, .ref u7, .ref u8])), (d0, .inl (k0, 8, .inl f_15)), (d1, .inl (k1, 8, .inl f_16)), (d2, .inl (k2, 8, .inl f_17)), (d3, .inl (k3, 8, .inl f_18)), (d4, .inl (k4, 30, .inl f_19)), (d5, .inl (k5, 30, .inl f5)), (d6, .inl (k6, 30, .inl f6)), (d7, .inl (k7, 30, .inl f7)), (d8, .inl (k8, 30, .inl f8)), (u0, .inl (j0, 8, .inl g0)), (u1, .inl (j1, 8, .inl g1)), (u2, .inl (j2, 8, .inl g2)), (u3, .inl (j3, 8, .inl g3)), (u4, .inl (j4, 30, .inl g4)), (u5, .inl (j5, 30, .inl g5)), (u6, .inl (j6, 30, .inl g6)), (u7, .inl (j7, 30, .inl g7)), (u8, .inl (j8, 30, .inl g8))] := by rw [ef_19]; exact hD
  refine lv_aload_n hx hb dX3_takeOver_83 rfl (lv_at hl 1 rfl) ?_
  refine va_get (D := (dC, dI)) (ci := 3) (v := .ref u5) (C := RX3) (T := TX3) (N := 12) hx hb hts (fun _ hh => (List.mem_cons_of_mem _ (List.mem_append_right _ (List.mem_append_left _ hh)))) hown hK hP 1 rfl rfl 8 (by decide) (hts (.fieldLink RX3 31 "TypingPool$Floor" "taken" "[I") (List.mem_cons_of_mem _ (List.mem_append_left _ (List.mem_of_getElem? (i := 10) rfl)))) (fun _ h9 => h9) rfl dX3_takeOver_84 ?_
  refine lv_iconst (v := 0) hx hb dX3_takeOver_87 (by decide) ?_
  refine lv_aload_n hx hb dX3_takeOver_88 rfl (lv_at hl 0 rfl) ?_
  refine va_get (D := (dC, dI)) (ci := 3) (v := .ref d5) (C := RX3) (T := TX3) (N := 12) hx hb hts (fun _ hh => (List.mem_cons_of_mem _ (List.mem_append_right _ (List.mem_append_left _ hh)))) hown hK hP 0 rfl rfl 8 (by decide) (hts (.fieldLink RX3 31 "TypingPool$Floor" "taken" "[I") (List.mem_cons_of_mem _ (List.mem_append_left _ (List.mem_of_getElem? (i := 10) rfl)))) (fun _ h9 => h9) rfl dX3_takeOver_89 ?_
  refine lv_iconst (v := 0) hx hb dX3_takeOver_92 (by decide) ?_
  refine lv_bipush (v := 30) hx hb dX3_takeOver_93 (by decide) ?_
  refine va_copyi (ty := .int) hx hb (by rw [hml]; exact hl.1.symm) hown (hts (.methodLink RX3 51 arraycopyName) (List.mem_cons_of_mem _ (List.mem_append_left _ (List.mem_of_getElem? (i := 2) rfl)))) (hts (.native arraycopyName) (List.mem_cons_of_mem _ (List.mem_append_left _ (List.mem_of_getElem? (i := 3) rfl)))) (hts (.static arraycopyName) (List.mem_cons_of_mem _ (List.mem_append_left _ (List.mem_of_getElem? (i := 4) rfl)))) (hts (.initialized "java/lang/System") (List.mem_cons_of_mem _ (List.mem_append_left _ (List.mem_of_getElem? (i := 5) rfl)))) hK hP hD hS 16 7 14 5 rfl rfl rfl rfl rfl (by decide) (by decide) (by decide) (by decide) (by decide) (fun i hi => rfl) (Nat.le_of_ble_eq_true rfl) (Nat.le_of_ble_eq_true rfl) dX3_takeOver_95 (fun H locs hP hD hS => ?_)
  obtain ⟨f_20, ef_20⟩ : ∃ y : Nat → Int32, y = va_cpy g5 f5 (0 : Int32).toNatClampNeg (0 : Int32).toNatClampNeg (30 : Int32).toNatClampNeg := ⟨_, rfl⟩
  have hP : va_P (dC, dI) vwCl [(h0, .inr (3, [.ref c0, .ref c1, .int 0, .ref d0, .ref d1, .ref d2, .ref d3, .ref d4, .ref d5, .ref d6, .ref d7, .ref d8])), (h1, .inr (3, [.ref e0, .ref e1, .int 0, .ref u0, .ref u1, .ref u2, .ref u3, .ref u4, .ref u5, .ref u6, .ref u7, .ref u8])), (d0, .inl (k0, 8, .inl f_15)), (d1, .inl (k1, 8, .inl f_16)), (d2, .inl (k2, 8, .inl f_17)), (d3, .inl (k3, 8, .inl f_18)), (d4, .inl (k4, 30, .inl f_19)), (d5, .inl (k5, 30, .inl f_20)), (d6, .inl (k6, 30, .inl f6)), (d7, .inl (k7, 30, .inl f7)), (d8, .inl (k8, 30, .inl f8)), (u0, .inl (j0, 8, .inl g0)), (u1, .inl (j1, 8, .inl g1)), (u2, .inl (j2, 8, .inl g2)), (u3, .inl (j3, 8, .inl g3)), (u4, .inl (j4, 30, .inl g4)), (u5, .inl (j5, 30, .inl g5)), (u6, .inl (j6, 30, .inl g6)), (u7, .inl (j7, 30, .inl g7)), (u8, .inl (j8, 30, .inl g8))] H := by rw [ef_20]; exact hP
  have hD : va_D A [(h0, .inr (3, [.ref c0, .ref c1, .int 0, .ref d0, .ref d1, .ref d2, .ref d3, .ref d4, .ref d5, .ref d6, .ref d7, .ref d8])), (h1, .inr (3, [.ref e0, .ref e1, .int 0, .ref u0, .ref u1, .ref u2, .ref u3, .ref u4, .ref u5, .ref u6, .ref u7, .ref u8])), (d0, .inl (k0, 8, .inl f_15)), (d1, .inl (k1, 8, .inl f_16)), (d2, .inl (k2, 8, .inl f_17)), (d3, .inl (k3, 8, .inl f_18)), (d4, .inl (k4, 30, .inl f_19)), (d5, .inl (k5, 30, .inl f_20)), (d6, .inl (k6, 30, .inl f6)), (d7, .inl (k7, 30, .inl f7)), (d8, .inl (k8, 30, .inl f8)), (u0, .inl (j0, 8, .inl g0)), (u1, .inl (j1, 8, .inl g1)), (u2, .inl (j2, 8, .inl g2)), (u3, .inl (j3, 8, .inl g3)), (u4, .inl (j4, 30, .inl g4)), (u5, .inl (j5, 30, .inl g5)), (u6, .inl (j6, 30, .inl g6)), (u7, .inl (j7, 30, .inl g7)), (u8, .inl (j8, 30, .inl g8))] := by rw [ef_20]; exact hD
  refine lv_aload_n hx hb dX3_takeOver_98 rfl (lv_at hl 1 rfl) ?_
  refine va_get (D := (dC, dI)) (ci := 3) (v := .ref u6) (C := RX3) (T := TX3) (N := 12) hx hb hts (fun _ hh => (List.mem_cons_of_mem _ (List.mem_append_right _ (List.mem_append_left _ hh)))) hown hK hP 1 rfl rfl 9 (by decide) (hts (.fieldLink RX3 34 "TypingPool$Floor" "done" "[I") (List.mem_cons_of_mem _ (List.mem_append_left _ (List.mem_of_getElem? (i := 11) rfl)))) (fun _ h9 => h9) rfl dX3_takeOver_99 ?_
  refine lv_iconst (v := 0) hx hb dX3_takeOver_102 (by decide) ?_
  refine lv_aload_n hx hb dX3_takeOver_103 rfl (lv_at hl 0 rfl) ?_
  refine va_get (D := (dC, dI)) (ci := 3) (v := .ref d6) (C := RX3) (T := TX3) (N := 12) hx hb hts (fun _ hh => (List.mem_cons_of_mem _ (List.mem_append_right _ (List.mem_append_left _ hh)))) hown hK hP 0 rfl rfl 9 (by decide) (hts (.fieldLink RX3 34 "TypingPool$Floor" "done" "[I") (List.mem_cons_of_mem _ (List.mem_append_left _ (List.mem_of_getElem? (i := 11) rfl)))) (fun _ h9 => h9) rfl dX3_takeOver_104 ?_
  refine lv_iconst (v := 0) hx hb dX3_takeOver_107 (by decide) ?_
  refine lv_bipush (v := 30) hx hb dX3_takeOver_108 (by decide) ?_
  refine va_copyi (ty := .int) hx hb (by rw [hml]; exact hl.1.symm) hown (hts (.methodLink RX3 51 arraycopyName) (List.mem_cons_of_mem _ (List.mem_append_left _ (List.mem_of_getElem? (i := 2) rfl)))) (hts (.native arraycopyName) (List.mem_cons_of_mem _ (List.mem_append_left _ (List.mem_of_getElem? (i := 3) rfl)))) (hts (.static arraycopyName) (List.mem_cons_of_mem _ (List.mem_append_left _ (List.mem_of_getElem? (i := 4) rfl)))) (hts (.initialized "java/lang/System") (List.mem_cons_of_mem _ (List.mem_append_left _ (List.mem_of_getElem? (i := 5) rfl)))) hK hP hD hS 17 8 15 6 rfl rfl rfl rfl rfl (by decide) (by decide) (by decide) (by decide) (by decide) (fun i hi => rfl) (Nat.le_of_ble_eq_true rfl) (Nat.le_of_ble_eq_true rfl) dX3_takeOver_110 (fun H locs hP hD hS => ?_)
  obtain ⟨f_21, ef_21⟩ : ∃ y : Nat → Int32, y = va_cpy g6 f6 (0 : Int32).toNatClampNeg (0 : Int32).toNatClampNeg (30 : Int32).toNatClampNeg := ⟨_, rfl⟩
  have hP : va_P (dC, dI) vwCl [(h0, .inr (3, [.ref c0, .ref c1, .int 0, .ref d0, .ref d1, .ref d2, .ref d3, .ref d4, .ref d5, .ref d6, .ref d7, .ref d8])), (h1, .inr (3, [.ref e0, .ref e1, .int 0, .ref u0, .ref u1, .ref u2, .ref u3, .ref u4, .ref u5, .ref u6, .ref u7, .ref u8])), (d0, .inl (k0, 8, .inl f_15)), (d1, .inl (k1, 8, .inl f_16)), (d2, .inl (k2, 8, .inl f_17)), (d3, .inl (k3, 8, .inl f_18)), (d4, .inl (k4, 30, .inl f_19)), (d5, .inl (k5, 30, .inl f_20)), (d6, .inl (k6, 30, .inl f_21)), (d7, .inl (k7, 30, .inl f7)), (d8, .inl (k8, 30, .inl f8)), (u0, .inl (j0, 8, .inl g0)), (u1, .inl (j1, 8, .inl g1)), (u2, .inl (j2, 8, .inl g2)), (u3, .inl (j3, 8, .inl g3)), (u4, .inl (j4, 30, .inl g4)), (u5, .inl (j5, 30, .inl g5)), (u6, .inl (j6, 30, .inl g6)), (u7, .inl (j7, 30, .inl g7)), (u8, .inl (j8, 30, .inl g8))] H := by rw [ef_21]; exact hP
  have hD : va_D A [(h0, .inr (3, [.ref c0, .ref c1, .int 0, .ref d0, .ref d1, .ref d2, .ref d3, .ref d4, .ref d5, .ref d6, .ref d7, .ref d8])), (h1, .inr (3, [.ref e0, .ref e1, .int 0, .ref u0, .ref u1, .ref u2, .ref u3, .ref u4, .ref u5, .ref u6, .ref u7, .ref u8])), (d0, .inl (k0, 8, .inl f_15)), (d1, .inl (k1, 8, .inl f_16)), (d2, .inl (k2, 8, .inl f_17)), (d3, .inl (k3, 8, .inl f_18)), (d4, .inl (k4, 30, .inl f_19)), (d5, .inl (k5, 30, .inl f_20)), (d6, .inl (k6, 30, .inl f_21)), (d7, .inl (k7, 30, .inl f7)), (d8, .inl (k8, 30, .inl f8)), (u0, .inl (j0, 8, .inl g0)), (u1, .inl (j1, 8, .inl g1)), (u2, .inl (j2, 8, .inl g2)), (u3, .inl (j3, 8, .inl g3)), (u4, .inl (j4, 30, .inl g4)), (u5, .inl (j5, 30, .inl g5)), (u6, .inl (j6, 30, .inl g6)), (u7, .inl (j7, 30, .inl g7)), (u8, .inl (j8, 30, .inl g8))] := by rw [ef_21]; exact hD
  refine lv_aload_n hx hb dX3_takeOver_113 rfl (lv_at hl 1 rfl) ?_
  refine va_get (D := (dC, dI)) (ci := 3) (v := .ref u7) (C := RX3) (T := TX3) (N := 12) hx hb hts (fun _ hh => (List.mem_cons_of_mem _ (List.mem_append_right _ (List.mem_append_left _ hh)))) hown hK hP 1 rfl rfl 10 (by decide) (hts (.fieldLink RX3 37 "TypingPool$Floor" "workLeft" "[I") (List.mem_cons_of_mem _ (List.mem_append_left _ (List.mem_of_getElem? (i := 12) rfl)))) (fun _ h9 => h9) rfl dX3_takeOver_114 ?_
  refine lv_iconst (v := 0) hx hb dX3_takeOver_117 (by decide) ?_
  refine lv_aload_n hx hb dX3_takeOver_118 rfl (lv_at hl 0 rfl) ?_
  refine va_get (D := (dC, dI)) (ci := 3) (v := .ref d7) (C := RX3) (T := TX3) (N := 12) hx hb hts (fun _ hh => (List.mem_cons_of_mem _ (List.mem_append_right _ (List.mem_append_left _ hh)))) hown hK hP 0 rfl rfl 10 (by decide) (hts (.fieldLink RX3 37 "TypingPool$Floor" "workLeft" "[I") (List.mem_cons_of_mem _ (List.mem_append_left _ (List.mem_of_getElem? (i := 12) rfl)))) (fun _ h9 => h9) rfl dX3_takeOver_119 ?_
  refine lv_iconst (v := 0) hx hb dX3_takeOver_122 (by decide) ?_
  refine lv_bipush (v := 30) hx hb dX3_takeOver_123 (by decide) ?_
  refine va_copyi (ty := .int) hx hb (by rw [hml]; exact hl.1.symm) hown (hts (.methodLink RX3 51 arraycopyName) (List.mem_cons_of_mem _ (List.mem_append_left _ (List.mem_of_getElem? (i := 2) rfl)))) (hts (.native arraycopyName) (List.mem_cons_of_mem _ (List.mem_append_left _ (List.mem_of_getElem? (i := 3) rfl)))) (hts (.static arraycopyName) (List.mem_cons_of_mem _ (List.mem_append_left _ (List.mem_of_getElem? (i := 4) rfl)))) (hts (.initialized "java/lang/System") (List.mem_cons_of_mem _ (List.mem_append_left _ (List.mem_of_getElem? (i := 5) rfl)))) hK hP hD hS 18 9 16 7 rfl rfl rfl rfl rfl (by decide) (by decide) (by decide) (by decide) (by decide) (fun i hi => rfl) (Nat.le_of_ble_eq_true rfl) (Nat.le_of_ble_eq_true rfl) dX3_takeOver_125 (fun H locs hP hD hS => ?_)
  obtain ⟨f_22, ef_22⟩ : ∃ y : Nat → Int32, y = va_cpy g7 f7 (0 : Int32).toNatClampNeg (0 : Int32).toNatClampNeg (30 : Int32).toNatClampNeg := ⟨_, rfl⟩
  have hP : va_P (dC, dI) vwCl [(h0, .inr (3, [.ref c0, .ref c1, .int 0, .ref d0, .ref d1, .ref d2, .ref d3, .ref d4, .ref d5, .ref d6, .ref d7, .ref d8])), (h1, .inr (3, [.ref e0, .ref e1, .int 0, .ref u0, .ref u1, .ref u2, .ref u3, .ref u4, .ref u5, .ref u6, .ref u7, .ref u8])), (d0, .inl (k0, 8, .inl f_15)), (d1, .inl (k1, 8, .inl f_16)), (d2, .inl (k2, 8, .inl f_17)), (d3, .inl (k3, 8, .inl f_18)), (d4, .inl (k4, 30, .inl f_19)), (d5, .inl (k5, 30, .inl f_20)), (d6, .inl (k6, 30, .inl f_21)), (d7, .inl (k7, 30, .inl f_22)), (d8, .inl (k8, 30, .inl f8)), (u0, .inl (j0, 8, .inl g0)), (u1, .inl (j1, 8, .inl g1)), (u2, .inl (j2, 8, .inl g2)), (u3, .inl (j3, 8, .inl g3)), (u4, .inl (j4, 30, .inl g4)), (u5, .inl (j5, 30, .inl g5)), (u6, .inl (j6, 30, .inl g6)), (u7, .inl (j7, 30, .inl g7)), (u8, .inl (j8, 30, .inl g8))] H := by rw [ef_22]; exact hP
  have hD : va_D A [(h0, .inr (3, [.ref c0, .ref c1, .int 0, .ref d0, .ref d1, .ref d2, .ref d3, .ref d4, .ref d5, .ref d6, .ref d7, .ref d8])), (h1, .inr (3, [.ref e0, .ref e1, .int 0, .ref u0, .ref u1, .ref u2, .ref u3, .ref u4, .ref u5, .ref u6, .ref u7, .ref u8])), (d0, .inl (k0, 8, .inl f_15)), (d1, .inl (k1, 8, .inl f_16)), (d2, .inl (k2, 8, .inl f_17)), (d3, .inl (k3, 8, .inl f_18)), (d4, .inl (k4, 30, .inl f_19)), (d5, .inl (k5, 30, .inl f_20)), (d6, .inl (k6, 30, .inl f_21)), (d7, .inl (k7, 30, .inl f_22)), (d8, .inl (k8, 30, .inl f8)), (u0, .inl (j0, 8, .inl g0)), (u1, .inl (j1, 8, .inl g1)), (u2, .inl (j2, 8, .inl g2)), (u3, .inl (j3, 8, .inl g3)), (u4, .inl (j4, 30, .inl g4)), (u5, .inl (j5, 30, .inl g5)), (u6, .inl (j6, 30, .inl g6)), (u7, .inl (j7, 30, .inl g7)), (u8, .inl (j8, 30, .inl g8))] := by rw [ef_22]; exact hD
  refine lv_aload_n hx hb dX3_takeOver_128 rfl (lv_at hl 1 rfl) ?_
  refine va_get (D := (dC, dI)) (ci := 3) (v := .ref u8) (C := RX3) (T := TX3) (N := 12) hx hb hts (fun _ hh => (List.mem_cons_of_mem _ (List.mem_append_right _ (List.mem_append_left _ hh)))) hown hK hP 1 rfl rfl 11 (by decide) (hts (.fieldLink RX3 40 "TypingPool$Floor" "knew" "[I") (List.mem_cons_of_mem _ (List.mem_append_left _ (List.mem_of_getElem? (i := 13) rfl)))) (fun _ h9 => h9) rfl dX3_takeOver_129 ?_
  refine lv_iconst (v := 0) hx hb dX3_takeOver_132 (by decide) ?_
  refine lv_aload_n hx hb dX3_takeOver_133 rfl (lv_at hl 0 rfl) ?_
  refine va_get (D := (dC, dI)) (ci := 3) (v := .ref d8) (C := RX3) (T := TX3) (N := 12) hx hb hts (fun _ hh => (List.mem_cons_of_mem _ (List.mem_append_right _ (List.mem_append_left _ hh)))) hown hK hP 0 rfl rfl 11 (by decide) (hts (.fieldLink RX3 40 "TypingPool$Floor" "knew" "[I") (List.mem_cons_of_mem _ (List.mem_append_left _ (List.mem_of_getElem? (i := 13) rfl)))) (fun _ h9 => h9) rfl dX3_takeOver_134 ?_
  refine lv_iconst (v := 0) hx hb dX3_takeOver_137 (by decide) ?_
  refine lv_bipush (v := 30) hx hb dX3_takeOver_138 (by decide) ?_
  refine va_copyi (ty := .int) hx hb (by rw [hml]; exact hl.1.symm) hown (hts (.methodLink RX3 51 arraycopyName) (List.mem_cons_of_mem _ (List.mem_append_left _ (List.mem_of_getElem? (i := 2) rfl)))) (hts (.native arraycopyName) (List.mem_cons_of_mem _ (List.mem_append_left _ (List.mem_of_getElem? (i := 3) rfl)))) (hts (.static arraycopyName) (List.mem_cons_of_mem _ (List.mem_append_left _ (List.mem_of_getElem? (i := 4) rfl)))) (hts (.initialized "java/lang/System") (List.mem_cons_of_mem _ (List.mem_append_left _ (List.mem_of_getElem? (i := 5) rfl)))) hK hP hD hS 19 10 17 8 rfl rfl rfl rfl rfl (by decide) (by decide) (by decide) (by decide) (by decide) (fun i hi => rfl) (Nat.le_of_ble_eq_true rfl) (Nat.le_of_ble_eq_true rfl) dX3_takeOver_140 (fun H locs hP hD hS => ?_)
  obtain ⟨f_23, ef_23⟩ : ∃ y : Nat → Int32, y = va_cpy g8 f8 (0 : Int32).toNatClampNeg (0 : Int32).toNatClampNeg (30 : Int32).toNatClampNeg := ⟨_, rfl⟩
  have hP : va_P (dC, dI) vwCl [(h0, .inr (3, [.ref c0, .ref c1, .int 0, .ref d0, .ref d1, .ref d2, .ref d3, .ref d4, .ref d5, .ref d6, .ref d7, .ref d8])), (h1, .inr (3, [.ref e0, .ref e1, .int 0, .ref u0, .ref u1, .ref u2, .ref u3, .ref u4, .ref u5, .ref u6, .ref u7, .ref u8])), (d0, .inl (k0, 8, .inl f_15)), (d1, .inl (k1, 8, .inl f_16)), (d2, .inl (k2, 8, .inl f_17)), (d3, .inl (k3, 8, .inl f_18)), (d4, .inl (k4, 30, .inl f_19)), (d5, .inl (k5, 30, .inl f_20)), (d6, .inl (k6, 30, .inl f_21)), (d7, .inl (k7, 30, .inl f_22)), (d8, .inl (k8, 30, .inl f_23)), (u0, .inl (j0, 8, .inl g0)), (u1, .inl (j1, 8, .inl g1)), (u2, .inl (j2, 8, .inl g2)), (u3, .inl (j3, 8, .inl g3)), (u4, .inl (j4, 30, .inl g4)), (u5, .inl (j5, 30, .inl g5)), (u6, .inl (j6, 30, .inl g6)), (u7, .inl (j7, 30, .inl g7)), (u8, .inl (j8, 30, .inl g8))] H := by rw [ef_23]; exact hP
  have hD : va_D A [(h0, .inr (3, [.ref c0, .ref c1, .int 0, .ref d0, .ref d1, .ref d2, .ref d3, .ref d4, .ref d5, .ref d6, .ref d7, .ref d8])), (h1, .inr (3, [.ref e0, .ref e1, .int 0, .ref u0, .ref u1, .ref u2, .ref u3, .ref u4, .ref u5, .ref u6, .ref u7, .ref u8])), (d0, .inl (k0, 8, .inl f_15)), (d1, .inl (k1, 8, .inl f_16)), (d2, .inl (k2, 8, .inl f_17)), (d3, .inl (k3, 8, .inl f_18)), (d4, .inl (k4, 30, .inl f_19)), (d5, .inl (k5, 30, .inl f_20)), (d6, .inl (k6, 30, .inl f_21)), (d7, .inl (k7, 30, .inl f_22)), (d8, .inl (k8, 30, .inl f_23)), (u0, .inl (j0, 8, .inl g0)), (u1, .inl (j1, 8, .inl g1)), (u2, .inl (j2, 8, .inl g2)), (u3, .inl (j3, 8, .inl g3)), (u4, .inl (j4, 30, .inl g4)), (u5, .inl (j5, 30, .inl g5)), (u6, .inl (j6, 30, .inl g6)), (u7, .inl (j7, 30, .inl g7)), (u8, .inl (j8, 30, .inl g8))] := by rw [ef_23]; exact hD
  have hP9 := hP.sub (ws' := [(h0, .inr (3, [.ref c0, .ref c1, .int 0, .ref d0, .ref d1, .ref d2, .ref d3, .ref d4, .ref d5, .ref d6, .ref d7, .ref d8])), (h1, .inr (3, [.ref e0, .ref e1, .int 0, .ref u0, .ref u1, .ref u2, .ref u3, .ref u4, .ref u5, .ref u6, .ref u7, .ref u8]))]) [0, 1] rfl
  have hD9 := hD.sub (ws' := [(h0, .inr (3, [.ref c0, .ref c1, .int 0, .ref d0, .ref d1, .ref d2, .ref d3, .ref d4, .ref d5, .ref d6, .ref d7, .ref d8])), (h1, .inr (3, [.ref e0, .ref e1, .int 0, .ref u0, .ref u1, .ref u2, .ref u3, .ref u4, .ref u5, .ref u6, .ref u7, .ref u8]))]) [0, 1] (by decide) rfl
  have hK9 := hK.sub (tys' := []) [] rfl
  exact W.vret hx hb hr (fun t ht hW => ⟨⟨(), rfl, trivial, ⟨by rw [ht]; exact hP9, va_K.moved hW.alike hK9, hD9⟩⟩, hS.F ht⟩) hS.2.2 dX3_takeOver_143
def wo_c_listPieces0 : List Cond := [.fieldLink RX7 42 "TypingPool$Planner" "pieceCount" "I", .fieldLink RX7 27 "TypingPool$Planner" "book" "LTypingPool$Book;", .methodLink RX7 67 yX1_hasPiece, .instanceMethod yX1_hasPiece, .selects RX1 yX1_hasPiece yX1_hasPiece, .initialized RX1]
def wm_c_listPieces0 : List Cond := .code yX7_listPieces cX7_listPieces 4 (some .boolean) :: (wo_c_listPieces0 ++ (wsX70 ++ (wm_c_hasPiece0 ++ ([] : List Cond))))
theorem gd_c_listPieces0 : ∀ w ∈ wm_c_listPieces0, goodWord w = true := gd_c rfl (gd_a (by decide) (gd_a gd_wsX70 (gd_a gd_c_hasPiece0 gd_nil)))
set_option maxRecDepth 20000 in
theorem im_c_listPieces0 : ∀ w ∈ wm_c_listPieces0, w ∈ lw_tbl := im_c (in_r [.code yX7_listPieces cX7_listPieces 4 (some .boolean)] [1026] (by decide +kernel)) (in_app (in_r wo_c_listPieces0 [518, 515, 1027, 841, 842, 71] (by decide +kernel)) (in_app im_wsX70 (in_app im_c_hasPiece0 im_nil)))
set_option maxHeartbeats 4000000 in
set_option maxRecDepth 100000 in
theorem c_listPieces0 (l : Launch) (dC : Nat → ClassId) (dI : Nat → Nat → Nat) (ad av : Nat → Nat) (sz : Nat) (h0 : Nat) (bo : Nat) (l1 : Nat) (l2 : Nat) (l3 : Nat) (l4 : Nat) (l5 : Nat) (l6 : Nat) (b0 : Nat) (b1 : Nat) (b2 : Nat) (b3 : Nat) (p0 : Int32) : Met l yX7_listPieces wm_c_listPieces0 ({ frames := 2, cells := 0, slots := 0, locals := 60 }) (pr_ ad av (dC, dI) sz [.ref h0, .int p0] [(h0, .inr (7, [.ref bo, .ref l1, .ref l2, .int 0, .ref l3, .int 0, .ref l4, .ref l5, .ref l6, .int 0, .int 0, .int 0, .int 0])), (bo, .inr (1, [.ref b0, .int 0, .ref b1, .int 0, .ref b2, .int 0, .ref b3, .int 0]))] []) (va_Qi (fun (r u : Int32) => u = r) (fun (r : Int32) (t : State) => (r = 0 ∧ po_ (dC, dI) (va_A [(h0, .inr (7, [.ref bo, .ref l1, .ref l2, .int 0, .ref l3, .int 0, .ref l4, .ref l5, .ref l6, .int 0, .int 0, .int 0, .int 0])), (bo, .inr (1, [.ref b0, .int 0, .ref b1, .int 0, .ref b2, .int 0, .ref b3, .int 0]))] sz) [(h0, .inr (7, [.ref bo, .ref l1, .ref l2, .int 0, .ref l3, .int 0, .ref l4, .ref l5, .ref l6, .int 0, .int 0, .int 0, .int 0])), (bo, .inr (1, [.ref b0, .int 0, .ref b1, .int 0, .ref b2, .int 0, .ref b3, .int 0]))] [] t)) (va_A [(h0, .inr (7, [.ref bo, .ref l1, .ref l2, .int 0, .ref l3, .int 0, .ref l4, .ref l5, .ref l6, .int 0, .int 0, .int 0, .int 0])), (bo, .inr (1, [.ref b0, .int 0, .ref b1, .int 0, .ref b2, .int 0, .ref b3, .int 0]))] sz)) 0 0 (va_A [(h0, .inr (7, [.ref bo, .ref l1, .ref l2, .int 0, .ref l3, .int 0, .ref l4, .ref l5, .ref l6, .int 0, .int 0, .int 0, .int 0])), (bo, .inr (1, [.ref b0, .int 0, .ref b1, .int 0, .ref b2, .int 0, .ref b3, .int 0]))] sz) := by
  refine Met.ofW (cc := cX7_listPieces) (maxL := 4) (ret := (some .boolean)) (by decide) rfl ?_
  intro p e s m args below meth c s₁ B hml hv
  obtain ⟨rfl, hsz, hP, hK, hD0, hM⟩ := hv
  have hx := B.exec
  have hb := B.bytes
  have hr := B.returns
  have hts := atoms_spec (ws := wm_c_listPieces0) B.pre
  have hown : s.vm.findClass RX7 = some m.cls := findClass_of_methodNamed B.named
  have hlocks := B.notSynchronized
  subst hsz
  have hD := hD0.self (sz := s.heap.size)
  generalize hAe : va_A [(h0, .inr (7, [.ref bo, .ref l1, .ref l2, .int 0, .ref l3, .int 0, .ref l4, .ref l5, .ref l6, .int 0, .int 0, .int 0, .int 0])), (bo, .inr (1, [.ref b0, .int 0, .ref b1, .int 0, .ref b2, .int 0, .ref b3, .int 0]))] s.heap.size = A at hD hM ⊢
  have hA : ∀ q : Nat, s.heap.size ≤ q → A q := fun q h => by rw [← hAe]; exact Or.inr h
  have hS : va_S A s.heap s.heap [] := va_S.rf
  have hP : va_P (dC, dI) vwCl [(h0, .inr (7, [.ref bo, .ref l1, .ref l2, .int 0, .ref l3, .int 0, .ref l4, .ref l5, .ref l6, .int 0, .int 0, .int 0, .int 0])), (bo, .inr (1, [.ref b0, .int 0, .ref b1, .int 0, .ref b2, .int 0, .ref b3, .int 0]))] s.heap := hP
  have hl := lv_entry ([.ref h0, .int p0]) (n := 4) (Nat.le_of_ble_eq_true rfl)
  rw [lg_entry_eq]
  generalize (lg_sl ([.ref h0, .int p0]) ++ List.replicate (4 - (lg_sl ([.ref h0, .int p0])).length) Slot.unset).toArray = ls at hl ⊢
  have hl : lv_has ls 4 [(0, .ref h0), (1, .int p0)] := hl
  refine lv_aload_n hx hb dX7_listPieces_0 rfl (lv_at hl 0 rfl) ?_
  refine lv_iconst (v := 0) hx hb dX7_listPieces_1 (by decide) ?_
  refine va_put (D := (dC, dI)) (ci := 7) (v := .int 0) (ty := .int) (C := RX7) (T := TX7) (N := 13) hx hb hts (fun _ hh => (List.mem_cons_of_mem _ (List.mem_append_right _ (List.mem_append_left _ hh)))) tyX7 tyX7_ok nmX7 hown hK hP hD hS 0 rfl rfl 3 (by decide) (hts (.fieldLink RX7 42 "TypingPool$Planner" "pieceCount" "I") (List.mem_cons_of_mem _ (List.mem_append_left _ (List.mem_of_getElem? (i := 0) rfl)))) (fun _ h9 => h9) rfl (tyX7_ok 3 (by decide)) rfl rfl (Nat.le_of_ble_eq_true rfl) dX7_listPieces_2 (fun H locs hP hD hS => ?_)
  have hP : va_P (dC, dI) vwCl [(h0, .inr (7, [.ref bo, .ref l1, .ref l2, .int 0, .ref l3, .int 0, .ref l4, .ref l5, .ref l6, .int 0, .int 0, .int 0, .int 0])), (bo, .inr (1, [.ref b0, .int 0, .ref b1, .int 0, .ref b2, .int 0, .ref b3, .int 0]))] H := hP
  have hD : va_D A [(h0, .inr (7, [.ref bo, .ref l1, .ref l2, .int 0, .ref l3, .int 0, .ref l4, .ref l5, .ref l6, .int 0, .int 0, .int 0, .int 0])), (bo, .inr (1, [.ref b0, .int 0, .ref b1, .int 0, .ref b2, .int 0, .ref b3, .int 0]))] := hD
  refine lv_iconst (v := 0) hx hb dX7_listPieces_5 (by decide) ?_
  refine lv_istore_n (lv' := [(2, .int 0), (0, .ref h0), (1, .int p0)]) hx hb dX7_listPieces_6 rfl hl (by decide) rfl (fun ls hl => ?_)
  refine lv_iload_n hx hb dX7_listPieces_7 rfl (lv_at hl 0 rfl) ?_
  refine lv_bipush (v := 32) hx hb dX7_listPieces_8 (by decide) ?_
  refine lv_icmp_ge (tgt := 91) hx hb dX7_listPieces_10 (by decide) (fun c_1 => absurd c_1 (by decide)) (fun c_1 => ?_)
  refine lv_iload_n hx hb dX7_listPieces_13 rfl (lv_at hl 2 rfl) ?_
  refine lv_iload_n hx hb dX7_listPieces_14 rfl (lv_at hl 0 rfl) ?_
  refine lv_iushr hx hb dX7_listPieces_15 rfl ?_
  refine lv_topi (fun x_2 ex_2 => ?_)
  refine lv_iconst (v := 1) hx hb dX7_listPieces_16 (by decide) ?_
  refine lv_iand hx hb dX7_listPieces_17 ?_
  refine lv_topi (fun x_3 ex_3 => ?_)
  refine lv_iconst (v := 1) hx hb dX7_listPieces_18 (by decide) ?_
  refine lv_icmp_ne (tgt := 85) hx hb dX7_listPieces_19 (by decide) (fun c_4 => ?_) (fun c_4 => ?_)
  · refine lv_iinc (v := 1) (lv' := [(2, .int 1), (0, .ref h0), (1, .int p0)]) hx hb dX7_listPieces_85 hl (k := 0) rfl (by decide) (by decide) rfl (fun ls hl => ?_)
    refine lv_goto (tgt := 7) hx hb dX7_listPieces_88 (by decide) ?_
    refine lv_iload_n hx hb dX7_listPieces_7 rfl (lv_at hl 0 rfl) ?_
    refine lv_bipush (v := 32) hx hb dX7_listPieces_8 (by decide) ?_
    refine lv_icmp_ge (tgt := 91) hx hb dX7_listPieces_10 (by decide) (fun c_5 => absurd c_5 (by decide)) (fun c_5 => ?_)
    refine lv_iload_n hx hb dX7_listPieces_13 rfl (lv_at hl 2 rfl) ?_
    refine lv_iload_n hx hb dX7_listPieces_14 rfl (lv_at hl 0 rfl) ?_
    refine lv_iushr hx hb dX7_listPieces_15 rfl ?_
    refine lv_topi (fun x_6 ex_6 => ?_)
    refine lv_iconst (v := 1) hx hb dX7_listPieces_16 (by decide) ?_
    refine lv_iand hx hb dX7_listPieces_17 ?_
    refine lv_topi (fun x_7 ex_7 => ?_)
    refine lv_iconst (v := 1) hx hb dX7_listPieces_18 (by decide) ?_
    refine lv_icmp_ne (tgt := 85) hx hb dX7_listPieces_19 (by decide) (fun c_8 => ?_) (fun c_8 => ?_)
    · refine lv_iinc (v := 2) (lv' := [(2, .int 2), (0, .ref h0), (1, .int p0)]) hx hb dX7_listPieces_85 hl (k := 0) rfl (by decide) (by decide) rfl (fun ls hl => ?_)
      refine lv_goto (tgt := 7) hx hb dX7_listPieces_88 (by decide) ?_
      refine lv_iload_n hx hb dX7_listPieces_7 rfl (lv_at hl 0 rfl) ?_
      refine lv_bipush (v := 32) hx hb dX7_listPieces_8 (by decide) ?_
      refine lv_icmp_ge (tgt := 91) hx hb dX7_listPieces_10 (by decide) (fun c_9 => absurd c_9 (by decide)) (fun c_9 => ?_)
      refine lv_iload_n hx hb dX7_listPieces_13 rfl (lv_at hl 2 rfl) ?_
      refine lv_iload_n hx hb dX7_listPieces_14 rfl (lv_at hl 0 rfl) ?_
      refine lv_iushr hx hb dX7_listPieces_15 rfl ?_
      refine lv_topi (fun x_10 ex_10 => ?_)
      refine lv_iconst (v := 1) hx hb dX7_listPieces_16 (by decide) ?_
      refine lv_iand hx hb dX7_listPieces_17 ?_
      refine lv_topi (fun x_11 ex_11 => ?_)
      refine lv_iconst (v := 1) hx hb dX7_listPieces_18 (by decide) ?_
      refine lv_icmp_ne (tgt := 85) hx hb dX7_listPieces_19 (by decide) (fun c_12 => ?_) (fun c_12 => ?_)
      · refine lv_iinc (v := 3) (lv' := [(2, .int 3), (0, .ref h0), (1, .int p0)]) hx hb dX7_listPieces_85 hl (k := 0) rfl (by decide) (by decide) rfl (fun ls hl => ?_)
        refine lv_goto (tgt := 7) hx hb dX7_listPieces_88 (by decide) ?_
        refine lv_iload_n hx hb dX7_listPieces_7 rfl (lv_at hl 0 rfl) ?_
        refine lv_bipush (v := 32) hx hb dX7_listPieces_8 (by decide) ?_
        refine lv_icmp_ge (tgt := 91) hx hb dX7_listPieces_10 (by decide) (fun c_13 => absurd c_13 (by decide)) (fun c_13 => ?_)
        refine lv_iload_n hx hb dX7_listPieces_13 rfl (lv_at hl 2 rfl) ?_
        refine lv_iload_n hx hb dX7_listPieces_14 rfl (lv_at hl 0 rfl) ?_
        refine lv_iushr hx hb dX7_listPieces_15 rfl ?_
        refine lv_topi (fun x_14 ex_14 => ?_)
        refine lv_iconst (v := 1) hx hb dX7_listPieces_16 (by decide) ?_
        refine lv_iand hx hb dX7_listPieces_17 ?_
        refine lv_topi (fun x_15 ex_15 => ?_)
        refine lv_iconst (v := 1) hx hb dX7_listPieces_18 (by decide) ?_
        refine lv_icmp_ne (tgt := 85) hx hb dX7_listPieces_19 (by decide) (fun c_16 => ?_) (fun c_16 => ?_)
        · refine lv_iinc (v := 4) (lv' := [(2, .int 4), (0, .ref h0), (1, .int p0)]) hx hb dX7_listPieces_85 hl (k := 0) rfl (by decide) (by decide) rfl (fun ls hl => ?_)
          refine lv_goto (tgt := 7) hx hb dX7_listPieces_88 (by decide) ?_
          refine lv_iload_n hx hb dX7_listPieces_7 rfl (lv_at hl 0 rfl) ?_
          refine lv_bipush (v := 32) hx hb dX7_listPieces_8 (by decide) ?_
          refine lv_icmp_ge (tgt := 91) hx hb dX7_listPieces_10 (by decide) (fun c_17 => absurd c_17 (by decide)) (fun c_17 => ?_)
          refine lv_iload_n hx hb dX7_listPieces_13 rfl (lv_at hl 2 rfl) ?_
          refine lv_iload_n hx hb dX7_listPieces_14 rfl (lv_at hl 0 rfl) ?_
          refine lv_iushr hx hb dX7_listPieces_15 rfl ?_
          refine lv_topi (fun x_18 ex_18 => ?_)
          refine lv_iconst (v := 1) hx hb dX7_listPieces_16 (by decide) ?_
          refine lv_iand hx hb dX7_listPieces_17 ?_
          refine lv_topi (fun x_19 ex_19 => ?_)
          refine lv_iconst (v := 1) hx hb dX7_listPieces_18 (by decide) ?_
          refine lv_icmp_ne (tgt := 85) hx hb dX7_listPieces_19 (by decide) (fun c_20 => ?_) (fun c_20 => ?_)
          · refine lv_iinc (v := 5) (lv' := [(2, .int 5), (0, .ref h0), (1, .int p0)]) hx hb dX7_listPieces_85 hl (k := 0) rfl (by decide) (by decide) rfl (fun ls hl => ?_)
            refine lv_goto (tgt := 7) hx hb dX7_listPieces_88 (by decide) ?_
            refine lv_iload_n hx hb dX7_listPieces_7 rfl (lv_at hl 0 rfl) ?_
            refine lv_bipush (v := 32) hx hb dX7_listPieces_8 (by decide) ?_
            refine lv_icmp_ge (tgt := 91) hx hb dX7_listPieces_10 (by decide) (fun c_21 => absurd c_21 (by decide)) (fun c_21 => ?_)
            refine lv_iload_n hx hb dX7_listPieces_13 rfl (lv_at hl 2 rfl) ?_
            refine lv_iload_n hx hb dX7_listPieces_14 rfl (lv_at hl 0 rfl) ?_
            refine lv_iushr hx hb dX7_listPieces_15 rfl ?_
            refine lv_topi (fun x_22 ex_22 => ?_)
            refine lv_iconst (v := 1) hx hb dX7_listPieces_16 (by decide) ?_
            refine lv_iand hx hb dX7_listPieces_17 ?_
            refine lv_topi (fun x_23 ex_23 => ?_)
            refine lv_iconst (v := 1) hx hb dX7_listPieces_18 (by decide) ?_
            refine lv_icmp_ne (tgt := 85) hx hb dX7_listPieces_19 (by decide) (fun c_24 => ?_) (fun c_24 => ?_)
            · refine lv_iinc (v := 6) (lv' := [(2, .int 6), (0, .ref h0), (1, .int p0)]) hx hb dX7_listPieces_85 hl (k := 0) rfl (by decide) (by decide) rfl (fun ls hl => ?_)
              refine lv_goto (tgt := 7) hx hb dX7_listPieces_88 (by decide) ?_
              refine lv_iload_n hx hb dX7_listPieces_7 rfl (lv_at hl 0 rfl) ?_
              refine lv_bipush (v := 32) hx hb dX7_listPieces_8 (by decide) ?_
              refine lv_icmp_ge (tgt := 91) hx hb dX7_listPieces_10 (by decide) (fun c_25 => absurd c_25 (by decide)) (fun c_25 => ?_)
              refine lv_iload_n hx hb dX7_listPieces_13 rfl (lv_at hl 2 rfl) ?_
              refine lv_iload_n hx hb dX7_listPieces_14 rfl (lv_at hl 0 rfl) ?_
              refine lv_iushr hx hb dX7_listPieces_15 rfl ?_
              refine lv_topi (fun x_26 ex_26 => ?_)
              refine lv_iconst (v := 1) hx hb dX7_listPieces_16 (by decide) ?_
              refine lv_iand hx hb dX7_listPieces_17 ?_
              refine lv_topi (fun x_27 ex_27 => ?_)
              refine lv_iconst (v := 1) hx hb dX7_listPieces_18 (by decide) ?_
              refine lv_icmp_ne (tgt := 85) hx hb dX7_listPieces_19 (by decide) (fun c_28 => ?_) (fun c_28 => ?_)
              · refine lv_iinc (v := 7) (lv' := [(2, .int 7), (0, .ref h0), (1, .int p0)]) hx hb dX7_listPieces_85 hl (k := 0) rfl (by decide) (by decide) rfl (fun ls hl => ?_)
                refine lv_goto (tgt := 7) hx hb dX7_listPieces_88 (by decide) ?_
                refine lv_iload_n hx hb dX7_listPieces_7 rfl (lv_at hl 0 rfl) ?_
                refine lv_bipush (v := 32) hx hb dX7_listPieces_8 (by decide) ?_
                refine lv_icmp_ge (tgt := 91) hx hb dX7_listPieces_10 (by decide) (fun c_29 => absurd c_29 (by decide)) (fun c_29 => ?_)
                refine lv_iload_n hx hb dX7_listPieces_13 rfl (lv_at hl 2 rfl) ?_
                refine lv_iload_n hx hb dX7_listPieces_14 rfl (lv_at hl 0 rfl) ?_
                refine lv_iushr hx hb dX7_listPieces_15 rfl ?_
                refine lv_topi (fun x_30 ex_30 => ?_)
                refine lv_iconst (v := 1) hx hb dX7_listPieces_16 (by decide) ?_
                refine lv_iand hx hb dX7_listPieces_17 ?_
                refine lv_topi (fun x_31 ex_31 => ?_)
                refine lv_iconst (v := 1) hx hb dX7_listPieces_18 (by decide) ?_
                refine lv_icmp_ne (tgt := 85) hx hb dX7_listPieces_19 (by decide) (fun c_32 => ?_) (fun c_32 => ?_)
                · refine lv_iinc (v := 8) (lv' := [(2, .int 8), (0, .ref h0), (1, .int p0)]) hx hb dX7_listPieces_85 hl (k := 0) rfl (by decide) (by decide) rfl (fun ls hl => ?_)
                  refine lv_goto (tgt := 7) hx hb dX7_listPieces_88 (by decide) ?_
                  refine lv_iload_n hx hb dX7_listPieces_7 rfl (lv_at hl 0 rfl) ?_
                  refine lv_bipush (v := 32) hx hb dX7_listPieces_8 (by decide) ?_
                  refine lv_icmp_ge (tgt := 91) hx hb dX7_listPieces_10 (by decide) (fun c_33 => absurd c_33 (by decide)) (fun c_33 => ?_)
                  refine lv_iload_n hx hb dX7_listPieces_13 rfl (lv_at hl 2 rfl) ?_
                  refine lv_iload_n hx hb dX7_listPieces_14 rfl (lv_at hl 0 rfl) ?_
                  refine lv_iushr hx hb dX7_listPieces_15 rfl ?_
                  refine lv_topi (fun x_34 ex_34 => ?_)
                  refine lv_iconst (v := 1) hx hb dX7_listPieces_16 (by decide) ?_
                  refine lv_iand hx hb dX7_listPieces_17 ?_
                  refine lv_topi (fun x_35 ex_35 => ?_)
                  refine lv_iconst (v := 1) hx hb dX7_listPieces_18 (by decide) ?_
                  refine lv_icmp_ne (tgt := 85) hx hb dX7_listPieces_19 (by decide) (fun c_36 => ?_) (fun c_36 => ?_)
                  · refine lv_iinc (v := 9) (lv' := [(2, .int 9), (0, .ref h0), (1, .int p0)]) hx hb dX7_listPieces_85 hl (k := 0) rfl (by decide) (by decide) rfl (fun ls hl => ?_)
                    refine lv_goto (tgt := 7) hx hb dX7_listPieces_88 (by decide) ?_
                    refine lv_iload_n hx hb dX7_listPieces_7 rfl (lv_at hl 0 rfl) ?_
                    refine lv_bipush (v := 32) hx hb dX7_listPieces_8 (by decide) ?_
                    refine lv_icmp_ge (tgt := 91) hx hb dX7_listPieces_10 (by decide) (fun c_37 => absurd c_37 (by decide)) (fun c_37 => ?_)
                    refine lv_iload_n hx hb dX7_listPieces_13 rfl (lv_at hl 2 rfl) ?_
                    refine lv_iload_n hx hb dX7_listPieces_14 rfl (lv_at hl 0 rfl) ?_
                    refine lv_iushr hx hb dX7_listPieces_15 rfl ?_
                    refine lv_topi (fun x_38 ex_38 => ?_)
                    refine lv_iconst (v := 1) hx hb dX7_listPieces_16 (by decide) ?_
                    refine lv_iand hx hb dX7_listPieces_17 ?_
                    refine lv_topi (fun x_39 ex_39 => ?_)
                    refine lv_iconst (v := 1) hx hb dX7_listPieces_18 (by decide) ?_
                    refine lv_icmp_ne (tgt := 85) hx hb dX7_listPieces_19 (by decide) (fun c_40 => ?_) (fun c_40 => ?_)
                    · refine lv_iinc (v := 10) (lv' := [(2, .int 10), (0, .ref h0), (1, .int p0)]) hx hb dX7_listPieces_85 hl (k := 0) rfl (by decide) (by decide) rfl (fun ls hl => ?_)
                      refine lv_goto (tgt := 7) hx hb dX7_listPieces_88 (by decide) ?_
                      refine lv_iload_n hx hb dX7_listPieces_7 rfl (lv_at hl 0 rfl) ?_
                      refine lv_bipush (v := 32) hx hb dX7_listPieces_8 (by decide) ?_
                      refine lv_icmp_ge (tgt := 91) hx hb dX7_listPieces_10 (by decide) (fun c_41 => absurd c_41 (by decide)) (fun c_41 => ?_)
                      refine lv_iload_n hx hb dX7_listPieces_13 rfl (lv_at hl 2 rfl) ?_
                      refine lv_iload_n hx hb dX7_listPieces_14 rfl (lv_at hl 0 rfl) ?_
                      refine lv_iushr hx hb dX7_listPieces_15 rfl ?_
                      refine lv_topi (fun x_42 ex_42 => ?_)
                      refine lv_iconst (v := 1) hx hb dX7_listPieces_16 (by decide) ?_
                      refine lv_iand hx hb dX7_listPieces_17 ?_
                      refine lv_topi (fun x_43 ex_43 => ?_)
                      refine lv_iconst (v := 1) hx hb dX7_listPieces_18 (by decide) ?_
                      refine lv_icmp_ne (tgt := 85) hx hb dX7_listPieces_19 (by decide) (fun c_44 => ?_) (fun c_44 => ?_)
                      · refine lv_iinc (v := 11) (lv' := [(2, .int 11), (0, .ref h0), (1, .int p0)]) hx hb dX7_listPieces_85 hl (k := 0) rfl (by decide) (by decide) rfl (fun ls hl => ?_)
                        refine lv_goto (tgt := 7) hx hb dX7_listPieces_88 (by decide) ?_
                        refine lv_iload_n hx hb dX7_listPieces_7 rfl (lv_at hl 0 rfl) ?_
                        refine lv_bipush (v := 32) hx hb dX7_listPieces_8 (by decide) ?_
                        refine lv_icmp_ge (tgt := 91) hx hb dX7_listPieces_10 (by decide) (fun c_45 => absurd c_45 (by decide)) (fun c_45 => ?_)
                        refine lv_iload_n hx hb dX7_listPieces_13 rfl (lv_at hl 2 rfl) ?_
                        refine lv_iload_n hx hb dX7_listPieces_14 rfl (lv_at hl 0 rfl) ?_
                        refine lv_iushr hx hb dX7_listPieces_15 rfl ?_
                        refine lv_topi (fun x_46 ex_46 => ?_)
                        refine lv_iconst (v := 1) hx hb dX7_listPieces_16 (by decide) ?_
                        refine lv_iand hx hb dX7_listPieces_17 ?_
                        refine lv_topi (fun x_47 ex_47 => ?_)
                        refine lv_iconst (v := 1) hx hb dX7_listPieces_18 (by decide) ?_
                        refine lv_icmp_ne (tgt := 85) hx hb dX7_listPieces_19 (by decide) (fun c_48 => ?_) (fun c_48 => ?_)
                        · refine lv_iinc (v := 12) (lv' := [(2, .int 12), (0, .ref h0), (1, .int p0)]) hx hb dX7_listPieces_85 hl (k := 0) rfl (by decide) (by decide) rfl (fun ls hl => ?_)
                          refine lv_goto (tgt := 7) hx hb dX7_listPieces_88 (by decide) ?_
                          refine lv_iload_n hx hb dX7_listPieces_7 rfl (lv_at hl 0 rfl) ?_
                          refine lv_bipush (v := 32) hx hb dX7_listPieces_8 (by decide) ?_
                          refine lv_icmp_ge (tgt := 91) hx hb dX7_listPieces_10 (by decide) (fun c_49 => absurd c_49 (by decide)) (fun c_49 => ?_)
                          refine lv_iload_n hx hb dX7_listPieces_13 rfl (lv_at hl 2 rfl) ?_
                          refine lv_iload_n hx hb dX7_listPieces_14 rfl (lv_at hl 0 rfl) ?_
                          refine lv_iushr hx hb dX7_listPieces_15 rfl ?_
                          refine lv_topi (fun x_50 ex_50 => ?_)
                          refine lv_iconst (v := 1) hx hb dX7_listPieces_16 (by decide) ?_
                          refine lv_iand hx hb dX7_listPieces_17 ?_
                          refine lv_topi (fun x_51 ex_51 => ?_)
                          refine lv_iconst (v := 1) hx hb dX7_listPieces_18 (by decide) ?_
                          refine lv_icmp_ne (tgt := 85) hx hb dX7_listPieces_19 (by decide) (fun c_52 => ?_) (fun c_52 => ?_)
                          · refine lv_iinc (v := 13) (lv' := [(2, .int 13), (0, .ref h0), (1, .int p0)]) hx hb dX7_listPieces_85 hl (k := 0) rfl (by decide) (by decide) rfl (fun ls hl => ?_)
                            refine lv_goto (tgt := 7) hx hb dX7_listPieces_88 (by decide) ?_
                            refine lv_iload_n hx hb dX7_listPieces_7 rfl (lv_at hl 0 rfl) ?_
                            refine lv_bipush (v := 32) hx hb dX7_listPieces_8 (by decide) ?_
                            refine lv_icmp_ge (tgt := 91) hx hb dX7_listPieces_10 (by decide) (fun c_53 => absurd c_53 (by decide)) (fun c_53 => ?_)
                            refine lv_iload_n hx hb dX7_listPieces_13 rfl (lv_at hl 2 rfl) ?_
                            refine lv_iload_n hx hb dX7_listPieces_14 rfl (lv_at hl 0 rfl) ?_
                            refine lv_iushr hx hb dX7_listPieces_15 rfl ?_
                            refine lv_topi (fun x_54 ex_54 => ?_)
                            refine lv_iconst (v := 1) hx hb dX7_listPieces_16 (by decide) ?_
                            refine lv_iand hx hb dX7_listPieces_17 ?_
                            refine lv_topi (fun x_55 ex_55 => ?_)
                            refine lv_iconst (v := 1) hx hb dX7_listPieces_18 (by decide) ?_
                            refine lv_icmp_ne (tgt := 85) hx hb dX7_listPieces_19 (by decide) (fun c_56 => ?_) (fun c_56 => ?_)
                            · refine lv_iinc (v := 14) (lv' := [(2, .int 14), (0, .ref h0), (1, .int p0)]) hx hb dX7_listPieces_85 hl (k := 0) rfl (by decide) (by decide) rfl (fun ls hl => ?_)
                              refine lv_goto (tgt := 7) hx hb dX7_listPieces_88 (by decide) ?_
                              refine lv_iload_n hx hb dX7_listPieces_7 rfl (lv_at hl 0 rfl) ?_
                              refine lv_bipush (v := 32) hx hb dX7_listPieces_8 (by decide) ?_
                              refine lv_icmp_ge (tgt := 91) hx hb dX7_listPieces_10 (by decide) (fun c_57 => absurd c_57 (by decide)) (fun c_57 => ?_)
                              refine lv_iload_n hx hb dX7_listPieces_13 rfl (lv_at hl 2 rfl) ?_
                              refine lv_iload_n hx hb dX7_listPieces_14 rfl (lv_at hl 0 rfl) ?_
                              refine lv_iushr hx hb dX7_listPieces_15 rfl ?_
                              refine lv_topi (fun x_58 ex_58 => ?_)
                              refine lv_iconst (v := 1) hx hb dX7_listPieces_16 (by decide) ?_
                              refine lv_iand hx hb dX7_listPieces_17 ?_
                              refine lv_topi (fun x_59 ex_59 => ?_)
                              refine lv_iconst (v := 1) hx hb dX7_listPieces_18 (by decide) ?_
                              refine lv_icmp_ne (tgt := 85) hx hb dX7_listPieces_19 (by decide) (fun c_60 => ?_) (fun c_60 => ?_)
                              · refine lv_iinc (v := 15) (lv' := [(2, .int 15), (0, .ref h0), (1, .int p0)]) hx hb dX7_listPieces_85 hl (k := 0) rfl (by decide) (by decide) rfl (fun ls hl => ?_)
                                refine lv_goto (tgt := 7) hx hb dX7_listPieces_88 (by decide) ?_
                                refine lv_iload_n hx hb dX7_listPieces_7 rfl (lv_at hl 0 rfl) ?_
                                refine lv_bipush (v := 32) hx hb dX7_listPieces_8 (by decide) ?_
                                refine lv_icmp_ge (tgt := 91) hx hb dX7_listPieces_10 (by decide) (fun c_61 => absurd c_61 (by decide)) (fun c_61 => ?_)
                                refine lv_iload_n hx hb dX7_listPieces_13 rfl (lv_at hl 2 rfl) ?_
                                refine lv_iload_n hx hb dX7_listPieces_14 rfl (lv_at hl 0 rfl) ?_
                                refine lv_iushr hx hb dX7_listPieces_15 rfl ?_
                                refine lv_topi (fun x_62 ex_62 => ?_)
                                refine lv_iconst (v := 1) hx hb dX7_listPieces_16 (by decide) ?_
                                refine lv_iand hx hb dX7_listPieces_17 ?_
                                refine lv_topi (fun x_63 ex_63 => ?_)
                                refine lv_iconst (v := 1) hx hb dX7_listPieces_18 (by decide) ?_
                                refine lv_icmp_ne (tgt := 85) hx hb dX7_listPieces_19 (by decide) (fun c_64 => ?_) (fun c_64 => ?_)
                                · refine lv_iinc (v := 16) (lv' := [(2, .int 16), (0, .ref h0), (1, .int p0)]) hx hb dX7_listPieces_85 hl (k := 0) rfl (by decide) (by decide) rfl (fun ls hl => ?_)
                                  refine lv_goto (tgt := 7) hx hb dX7_listPieces_88 (by decide) ?_
                                  refine lv_iload_n hx hb dX7_listPieces_7 rfl (lv_at hl 0 rfl) ?_
                                  refine lv_bipush (v := 32) hx hb dX7_listPieces_8 (by decide) ?_
                                  refine lv_icmp_ge (tgt := 91) hx hb dX7_listPieces_10 (by decide) (fun c_65 => absurd c_65 (by decide)) (fun c_65 => ?_)
                                  refine lv_iload_n hx hb dX7_listPieces_13 rfl (lv_at hl 2 rfl) ?_
                                  refine lv_iload_n hx hb dX7_listPieces_14 rfl (lv_at hl 0 rfl) ?_
                                  refine lv_iushr hx hb dX7_listPieces_15 rfl ?_
                                  refine lv_topi (fun x_66 ex_66 => ?_)
                                  refine lv_iconst (v := 1) hx hb dX7_listPieces_16 (by decide) ?_
                                  refine lv_iand hx hb dX7_listPieces_17 ?_
                                  refine lv_topi (fun x_67 ex_67 => ?_)
                                  refine lv_iconst (v := 1) hx hb dX7_listPieces_18 (by decide) ?_
                                  refine lv_icmp_ne (tgt := 85) hx hb dX7_listPieces_19 (by decide) (fun c_68 => ?_) (fun c_68 => ?_)
                                  · refine lv_iinc (v := 17) (lv' := [(2, .int 17), (0, .ref h0), (1, .int p0)]) hx hb dX7_listPieces_85 hl (k := 0) rfl (by decide) (by decide) rfl (fun ls hl => ?_)
                                    refine lv_goto (tgt := 7) hx hb dX7_listPieces_88 (by decide) ?_
                                    refine lv_iload_n hx hb dX7_listPieces_7 rfl (lv_at hl 0 rfl) ?_
                                    refine lv_bipush (v := 32) hx hb dX7_listPieces_8 (by decide) ?_
                                    refine lv_icmp_ge (tgt := 91) hx hb dX7_listPieces_10 (by decide) (fun c_69 => absurd c_69 (by decide)) (fun c_69 => ?_)
                                    refine lv_iload_n hx hb dX7_listPieces_13 rfl (lv_at hl 2 rfl) ?_
                                    refine lv_iload_n hx hb dX7_listPieces_14 rfl (lv_at hl 0 rfl) ?_
                                    refine lv_iushr hx hb dX7_listPieces_15 rfl ?_
                                    refine lv_topi (fun x_70 ex_70 => ?_)
                                    refine lv_iconst (v := 1) hx hb dX7_listPieces_16 (by decide) ?_
                                    refine lv_iand hx hb dX7_listPieces_17 ?_
                                    refine lv_topi (fun x_71 ex_71 => ?_)
                                    refine lv_iconst (v := 1) hx hb dX7_listPieces_18 (by decide) ?_
                                    refine lv_icmp_ne (tgt := 85) hx hb dX7_listPieces_19 (by decide) (fun c_72 => ?_) (fun c_72 => ?_)
                                    · refine lv_iinc (v := 18) (lv' := [(2, .int 18), (0, .ref h0), (1, .int p0)]) hx hb dX7_listPieces_85 hl (k := 0) rfl (by decide) (by decide) rfl (fun ls hl => ?_)
                                      refine lv_goto (tgt := 7) hx hb dX7_listPieces_88 (by decide) ?_
                                      refine lv_iload_n hx hb dX7_listPieces_7 rfl (lv_at hl 0 rfl) ?_
                                      refine lv_bipush (v := 32) hx hb dX7_listPieces_8 (by decide) ?_
                                      refine lv_icmp_ge (tgt := 91) hx hb dX7_listPieces_10 (by decide) (fun c_73 => absurd c_73 (by decide)) (fun c_73 => ?_)
                                      refine lv_iload_n hx hb dX7_listPieces_13 rfl (lv_at hl 2 rfl) ?_
                                      refine lv_iload_n hx hb dX7_listPieces_14 rfl (lv_at hl 0 rfl) ?_
                                      refine lv_iushr hx hb dX7_listPieces_15 rfl ?_
                                      refine lv_topi (fun x_74 ex_74 => ?_)
                                      refine lv_iconst (v := 1) hx hb dX7_listPieces_16 (by decide) ?_
                                      refine lv_iand hx hb dX7_listPieces_17 ?_
                                      refine lv_topi (fun x_75 ex_75 => ?_)
                                      refine lv_iconst (v := 1) hx hb dX7_listPieces_18 (by decide) ?_
                                      refine lv_icmp_ne (tgt := 85) hx hb dX7_listPieces_19 (by decide) (fun c_76 => ?_) (fun c_76 => ?_)
                                      · refine lv_iinc (v := 19) (lv' := [(2, .int 19), (0, .ref h0), (1, .int p0)]) hx hb dX7_listPieces_85 hl (k := 0) rfl (by decide) (by decide) rfl (fun ls hl => ?_)
                                        refine lv_goto (tgt := 7) hx hb dX7_listPieces_88 (by decide) ?_
                                        refine lv_iload_n hx hb dX7_listPieces_7 rfl (lv_at hl 0 rfl) ?_
                                        refine lv_bipush (v := 32) hx hb dX7_listPieces_8 (by decide) ?_
                                        refine lv_icmp_ge (tgt := 91) hx hb dX7_listPieces_10 (by decide) (fun c_77 => absurd c_77 (by decide)) (fun c_77 => ?_)
                                        refine lv_iload_n hx hb dX7_listPieces_13 rfl (lv_at hl 2 rfl) ?_
                                        refine lv_iload_n hx hb dX7_listPieces_14 rfl (lv_at hl 0 rfl) ?_
                                        refine lv_iushr hx hb dX7_listPieces_15 rfl ?_
                                        refine lv_topi (fun x_78 ex_78 => ?_)
                                        refine lv_iconst (v := 1) hx hb dX7_listPieces_16 (by decide) ?_
                                        refine lv_iand hx hb dX7_listPieces_17 ?_
                                        refine lv_topi (fun x_79 ex_79 => ?_)
                                        refine lv_iconst (v := 1) hx hb dX7_listPieces_18 (by decide) ?_
                                        refine lv_icmp_ne (tgt := 85) hx hb dX7_listPieces_19 (by decide) (fun c_80 => ?_) (fun c_80 => ?_)
                                        · refine lv_iinc (v := 20) (lv' := [(2, .int 20), (0, .ref h0), (1, .int p0)]) hx hb dX7_listPieces_85 hl (k := 0) rfl (by decide) (by decide) rfl (fun ls hl => ?_)
                                          refine lv_goto (tgt := 7) hx hb dX7_listPieces_88 (by decide) ?_
                                          refine lv_iload_n hx hb dX7_listPieces_7 rfl (lv_at hl 0 rfl) ?_
                                          refine lv_bipush (v := 32) hx hb dX7_listPieces_8 (by decide) ?_
                                          refine lv_icmp_ge (tgt := 91) hx hb dX7_listPieces_10 (by decide) (fun c_81 => absurd c_81 (by decide)) (fun c_81 => ?_)
                                          refine lv_iload_n hx hb dX7_listPieces_13 rfl (lv_at hl 2 rfl) ?_
                                          refine lv_iload_n hx hb dX7_listPieces_14 rfl (lv_at hl 0 rfl) ?_
                                          refine lv_iushr hx hb dX7_listPieces_15 rfl ?_
                                          refine lv_topi (fun x_82 ex_82 => ?_)
                                          refine lv_iconst (v := 1) hx hb dX7_listPieces_16 (by decide) ?_
                                          refine lv_iand hx hb dX7_listPieces_17 ?_
                                          refine lv_topi (fun x_83 ex_83 => ?_)
                                          refine lv_iconst (v := 1) hx hb dX7_listPieces_18 (by decide) ?_
                                          refine lv_icmp_ne (tgt := 85) hx hb dX7_listPieces_19 (by decide) (fun c_84 => ?_) (fun c_84 => ?_)
                                          · refine lv_iinc (v := 21) (lv' := [(2, .int 21), (0, .ref h0), (1, .int p0)]) hx hb dX7_listPieces_85 hl (k := 0) rfl (by decide) (by decide) rfl (fun ls hl => ?_)
                                            refine lv_goto (tgt := 7) hx hb dX7_listPieces_88 (by decide) ?_
                                            refine lv_iload_n hx hb dX7_listPieces_7 rfl (lv_at hl 0 rfl) ?_
                                            refine lv_bipush (v := 32) hx hb dX7_listPieces_8 (by decide) ?_
                                            refine lv_icmp_ge (tgt := 91) hx hb dX7_listPieces_10 (by decide) (fun c_85 => absurd c_85 (by decide)) (fun c_85 => ?_)
                                            refine lv_iload_n hx hb dX7_listPieces_13 rfl (lv_at hl 2 rfl) ?_
                                            refine lv_iload_n hx hb dX7_listPieces_14 rfl (lv_at hl 0 rfl) ?_
                                            refine lv_iushr hx hb dX7_listPieces_15 rfl ?_
                                            refine lv_topi (fun x_86 ex_86 => ?_)
                                            refine lv_iconst (v := 1) hx hb dX7_listPieces_16 (by decide) ?_
                                            refine lv_iand hx hb dX7_listPieces_17 ?_
                                            refine lv_topi (fun x_87 ex_87 => ?_)
                                            refine lv_iconst (v := 1) hx hb dX7_listPieces_18 (by decide) ?_
                                            refine lv_icmp_ne (tgt := 85) hx hb dX7_listPieces_19 (by decide) (fun c_88 => ?_) (fun c_88 => ?_)
                                            · refine lv_iinc (v := 22) (lv' := [(2, .int 22), (0, .ref h0), (1, .int p0)]) hx hb dX7_listPieces_85 hl (k := 0) rfl (by decide) (by decide) rfl (fun ls hl => ?_)
                                              refine lv_goto (tgt := 7) hx hb dX7_listPieces_88 (by decide) ?_
                                              refine lv_iload_n hx hb dX7_listPieces_7 rfl (lv_at hl 0 rfl) ?_
                                              refine lv_bipush (v := 32) hx hb dX7_listPieces_8 (by decide) ?_
                                              refine lv_icmp_ge (tgt := 91) hx hb dX7_listPieces_10 (by decide) (fun c_89 => absurd c_89 (by decide)) (fun c_89 => ?_)
                                              refine lv_iload_n hx hb dX7_listPieces_13 rfl (lv_at hl 2 rfl) ?_
                                              refine lv_iload_n hx hb dX7_listPieces_14 rfl (lv_at hl 0 rfl) ?_
                                              refine lv_iushr hx hb dX7_listPieces_15 rfl ?_
                                              refine lv_topi (fun x_90 ex_90 => ?_)
                                              refine lv_iconst (v := 1) hx hb dX7_listPieces_16 (by decide) ?_
                                              refine lv_iand hx hb dX7_listPieces_17 ?_
                                              refine lv_topi (fun x_91 ex_91 => ?_)
                                              refine lv_iconst (v := 1) hx hb dX7_listPieces_18 (by decide) ?_
                                              refine lv_icmp_ne (tgt := 85) hx hb dX7_listPieces_19 (by decide) (fun c_92 => ?_) (fun c_92 => ?_)
                                              · refine lv_iinc (v := 23) (lv' := [(2, .int 23), (0, .ref h0), (1, .int p0)]) hx hb dX7_listPieces_85 hl (k := 0) rfl (by decide) (by decide) rfl (fun ls hl => ?_)
                                                refine lv_goto (tgt := 7) hx hb dX7_listPieces_88 (by decide) ?_
                                                refine lv_iload_n hx hb dX7_listPieces_7 rfl (lv_at hl 0 rfl) ?_
                                                refine lv_bipush (v := 32) hx hb dX7_listPieces_8 (by decide) ?_
                                                refine lv_icmp_ge (tgt := 91) hx hb dX7_listPieces_10 (by decide) (fun c_93 => absurd c_93 (by decide)) (fun c_93 => ?_)
                                                refine lv_iload_n hx hb dX7_listPieces_13 rfl (lv_at hl 2 rfl) ?_
                                                refine lv_iload_n hx hb dX7_listPieces_14 rfl (lv_at hl 0 rfl) ?_
                                                refine lv_iushr hx hb dX7_listPieces_15 rfl ?_
                                                refine lv_topi (fun x_94 ex_94 => ?_)
                                                refine lv_iconst (v := 1) hx hb dX7_listPieces_16 (by decide) ?_
                                                refine lv_iand hx hb dX7_listPieces_17 ?_
                                                refine lv_topi (fun x_95 ex_95 => ?_)
                                                refine lv_iconst (v := 1) hx hb dX7_listPieces_18 (by decide) ?_
                                                refine lv_icmp_ne (tgt := 85) hx hb dX7_listPieces_19 (by decide) (fun c_96 => ?_) (fun c_96 => ?_)
                                                · refine lv_iinc (v := 24) (lv' := [(2, .int 24), (0, .ref h0), (1, .int p0)]) hx hb dX7_listPieces_85 hl (k := 0) rfl (by decide) (by decide) rfl (fun ls hl => ?_)
                                                  refine lv_goto (tgt := 7) hx hb dX7_listPieces_88 (by decide) ?_
                                                  refine lv_iload_n hx hb dX7_listPieces_7 rfl (lv_at hl 0 rfl) ?_
                                                  refine lv_bipush (v := 32) hx hb dX7_listPieces_8 (by decide) ?_
                                                  refine lv_icmp_ge (tgt := 91) hx hb dX7_listPieces_10 (by decide) (fun c_97 => absurd c_97 (by decide)) (fun c_97 => ?_)
                                                  refine lv_iload_n hx hb dX7_listPieces_13 rfl (lv_at hl 2 rfl) ?_
                                                  refine lv_iload_n hx hb dX7_listPieces_14 rfl (lv_at hl 0 rfl) ?_
                                                  refine lv_iushr hx hb dX7_listPieces_15 rfl ?_
                                                  refine lv_topi (fun x_98 ex_98 => ?_)
                                                  refine lv_iconst (v := 1) hx hb dX7_listPieces_16 (by decide) ?_
                                                  refine lv_iand hx hb dX7_listPieces_17 ?_
                                                  refine lv_topi (fun x_99 ex_99 => ?_)
                                                  refine lv_iconst (v := 1) hx hb dX7_listPieces_18 (by decide) ?_
                                                  refine lv_icmp_ne (tgt := 85) hx hb dX7_listPieces_19 (by decide) (fun c_100 => ?_) (fun c_100 => ?_)
                                                  · refine lv_iinc (v := 25) (lv' := [(2, .int 25), (0, .ref h0), (1, .int p0)]) hx hb dX7_listPieces_85 hl (k := 0) rfl (by decide) (by decide) rfl (fun ls hl => ?_)
                                                    refine lv_goto (tgt := 7) hx hb dX7_listPieces_88 (by decide) ?_
                                                    refine lv_iload_n hx hb dX7_listPieces_7 rfl (lv_at hl 0 rfl) ?_
                                                    refine lv_bipush (v := 32) hx hb dX7_listPieces_8 (by decide) ?_
                                                    refine lv_icmp_ge (tgt := 91) hx hb dX7_listPieces_10 (by decide) (fun c_101 => absurd c_101 (by decide)) (fun c_101 => ?_)
                                                    refine lv_iload_n hx hb dX7_listPieces_13 rfl (lv_at hl 2 rfl) ?_
                                                    refine lv_iload_n hx hb dX7_listPieces_14 rfl (lv_at hl 0 rfl) ?_
                                                    refine lv_iushr hx hb dX7_listPieces_15 rfl ?_
                                                    refine lv_topi (fun x_102 ex_102 => ?_)
                                                    refine lv_iconst (v := 1) hx hb dX7_listPieces_16 (by decide) ?_
                                                    refine lv_iand hx hb dX7_listPieces_17 ?_
                                                    refine lv_topi (fun x_103 ex_103 => ?_)
                                                    refine lv_iconst (v := 1) hx hb dX7_listPieces_18 (by decide) ?_
                                                    refine lv_icmp_ne (tgt := 85) hx hb dX7_listPieces_19 (by decide) (fun c_104 => ?_) (fun c_104 => ?_)
                                                    · refine lv_iinc (v := 26) (lv' := [(2, .int 26), (0, .ref h0), (1, .int p0)]) hx hb dX7_listPieces_85 hl (k := 0) rfl (by decide) (by decide) rfl (fun ls hl => ?_)
                                                      refine lv_goto (tgt := 7) hx hb dX7_listPieces_88 (by decide) ?_
                                                      refine lv_iload_n hx hb dX7_listPieces_7 rfl (lv_at hl 0 rfl) ?_
                                                      refine lv_bipush (v := 32) hx hb dX7_listPieces_8 (by decide) ?_
                                                      refine lv_icmp_ge (tgt := 91) hx hb dX7_listPieces_10 (by decide) (fun c_105 => absurd c_105 (by decide)) (fun c_105 => ?_)
                                                      refine lv_iload_n hx hb dX7_listPieces_13 rfl (lv_at hl 2 rfl) ?_
                                                      refine lv_iload_n hx hb dX7_listPieces_14 rfl (lv_at hl 0 rfl) ?_
                                                      refine lv_iushr hx hb dX7_listPieces_15 rfl ?_
                                                      refine lv_topi (fun x_106 ex_106 => ?_)
                                                      refine lv_iconst (v := 1) hx hb dX7_listPieces_16 (by decide) ?_
                                                      refine lv_iand hx hb dX7_listPieces_17 ?_
                                                      refine lv_topi (fun x_107 ex_107 => ?_)
                                                      refine lv_iconst (v := 1) hx hb dX7_listPieces_18 (by decide) ?_
                                                      refine lv_icmp_ne (tgt := 85) hx hb dX7_listPieces_19 (by decide) (fun c_108 => ?_) (fun c_108 => ?_)
                                                      · refine lv_iinc (v := 27) (lv' := [(2, .int 27), (0, .ref h0), (1, .int p0)]) hx hb dX7_listPieces_85 hl (k := 0) rfl (by decide) (by decide) rfl (fun ls hl => ?_)
                                                        refine lv_goto (tgt := 7) hx hb dX7_listPieces_88 (by decide) ?_
                                                        refine lv_iload_n hx hb dX7_listPieces_7 rfl (lv_at hl 0 rfl) ?_
                                                        refine lv_bipush (v := 32) hx hb dX7_listPieces_8 (by decide) ?_
                                                        refine lv_icmp_ge (tgt := 91) hx hb dX7_listPieces_10 (by decide) (fun c_109 => absurd c_109 (by decide)) (fun c_109 => ?_)
                                                        refine lv_iload_n hx hb dX7_listPieces_13 rfl (lv_at hl 2 rfl) ?_
                                                        refine lv_iload_n hx hb dX7_listPieces_14 rfl (lv_at hl 0 rfl) ?_
                                                        refine lv_iushr hx hb dX7_listPieces_15 rfl ?_
                                                        refine lv_topi (fun x_110 ex_110 => ?_)
                                                        refine lv_iconst (v := 1) hx hb dX7_listPieces_16 (by decide) ?_
                                                        refine lv_iand hx hb dX7_listPieces_17 ?_
                                                        refine lv_topi (fun x_111 ex_111 => ?_)
                                                        refine lv_iconst (v := 1) hx hb dX7_listPieces_18 (by decide) ?_
                                                        refine lv_icmp_ne (tgt := 85) hx hb dX7_listPieces_19 (by decide) (fun c_112 => ?_) (fun c_112 => ?_)
                                                        · refine lv_iinc (v := 28) (lv' := [(2, .int 28), (0, .ref h0), (1, .int p0)]) hx hb dX7_listPieces_85 hl (k := 0) rfl (by decide) (by decide) rfl (fun ls hl => ?_)
                                                          refine lv_goto (tgt := 7) hx hb dX7_listPieces_88 (by decide) ?_
                                                          refine lv_iload_n hx hb dX7_listPieces_7 rfl (lv_at hl 0 rfl) ?_
                                                          refine lv_bipush (v := 32) hx hb dX7_listPieces_8 (by decide) ?_
                                                          refine lv_icmp_ge (tgt := 91) hx hb dX7_listPieces_10 (by decide) (fun c_113 => absurd c_113 (by decide)) (fun c_113 => ?_)
                                                          refine lv_iload_n hx hb dX7_listPieces_13 rfl (lv_at hl 2 rfl) ?_
                                                          refine lv_iload_n hx hb dX7_listPieces_14 rfl (lv_at hl 0 rfl) ?_
                                                          refine lv_iushr hx hb dX7_listPieces_15 rfl ?_
                                                          refine lv_topi (fun x_114 ex_114 => ?_)
                                                          refine lv_iconst (v := 1) hx hb dX7_listPieces_16 (by decide) ?_
                                                          refine lv_iand hx hb dX7_listPieces_17 ?_
                                                          refine lv_topi (fun x_115 ex_115 => ?_)
                                                          refine lv_iconst (v := 1) hx hb dX7_listPieces_18 (by decide) ?_
                                                          refine lv_icmp_ne (tgt := 85) hx hb dX7_listPieces_19 (by decide) (fun c_116 => ?_) (fun c_116 => ?_)
                                                          · refine lv_iinc (v := 29) (lv' := [(2, .int 29), (0, .ref h0), (1, .int p0)]) hx hb dX7_listPieces_85 hl (k := 0) rfl (by decide) (by decide) rfl (fun ls hl => ?_)
                                                            refine lv_goto (tgt := 7) hx hb dX7_listPieces_88 (by decide) ?_
                                                            refine lv_iload_n hx hb dX7_listPieces_7 rfl (lv_at hl 0 rfl) ?_
                                                            refine lv_bipush (v := 32) hx hb dX7_listPieces_8 (by decide) ?_
                                                            refine lv_icmp_ge (tgt := 91) hx hb dX7_listPieces_10 (by decide) (fun c_117 => absurd c_117 (by decide)) (fun c_117 => ?_)
                                                            refine lv_iload_n hx hb dX7_listPieces_13 rfl (lv_at hl 2 rfl) ?_
                                                            refine lv_iload_n hx hb dX7_listPieces_14 rfl (lv_at hl 0 rfl) ?_
                                                            refine lv_iushr hx hb dX7_listPieces_15 rfl ?_
                                                            refine lv_topi (fun x_118 ex_118 => ?_)
                                                            refine lv_iconst (v := 1) hx hb dX7_listPieces_16 (by decide) ?_
                                                            refine lv_iand hx hb dX7_listPieces_17 ?_
                                                            refine lv_topi (fun x_119 ex_119 => ?_)
                                                            refine lv_iconst (v := 1) hx hb dX7_listPieces_18 (by decide) ?_
                                                            refine lv_icmp_ne (tgt := 85) hx hb dX7_listPieces_19 (by decide) (fun c_120 => ?_) (fun c_120 => ?_)
                                                            · refine lv_iinc (v := 30) (lv' := [(2, .int 30), (0, .ref h0), (1, .int p0)]) hx hb dX7_listPieces_85 hl (k := 0) rfl (by decide) (by decide) rfl (fun ls hl => ?_)
                                                              refine lv_goto (tgt := 7) hx hb dX7_listPieces_88 (by decide) ?_
                                                              refine lv_iload_n hx hb dX7_listPieces_7 rfl (lv_at hl 0 rfl) ?_
                                                              refine lv_bipush (v := 32) hx hb dX7_listPieces_8 (by decide) ?_
                                                              refine lv_icmp_ge (tgt := 91) hx hb dX7_listPieces_10 (by decide) (fun c_121 => absurd c_121 (by decide)) (fun c_121 => ?_)
                                                              refine lv_iload_n hx hb dX7_listPieces_13 rfl (lv_at hl 2 rfl) ?_
                                                              refine lv_iload_n hx hb dX7_listPieces_14 rfl (lv_at hl 0 rfl) ?_
                                                              refine lv_iushr hx hb dX7_listPieces_15 rfl ?_
                                                              refine lv_topi (fun x_122 ex_122 => ?_)
                                                              refine lv_iconst (v := 1) hx hb dX7_listPieces_16 (by decide) ?_
                                                              refine lv_iand hx hb dX7_listPieces_17 ?_
                                                              refine lv_topi (fun x_123 ex_123 => ?_)
                                                              refine lv_iconst (v := 1) hx hb dX7_listPieces_18 (by decide) ?_
                                                              refine lv_icmp_ne (tgt := 85) hx hb dX7_listPieces_19 (by decide) (fun c_124 => ?_) (fun c_124 => ?_)
                                                              · refine lv_iinc (v := 31) (lv' := [(2, .int 31), (0, .ref h0), (1, .int p0)]) hx hb dX7_listPieces_85 hl (k := 0) rfl (by decide) (by decide) rfl (fun ls hl => ?_)
                                                                refine lv_goto (tgt := 7) hx hb dX7_listPieces_88 (by decide) ?_
                                                                refine lv_iload_n hx hb dX7_listPieces_7 rfl (lv_at hl 0 rfl) ?_
                                                                refine lv_bipush (v := 32) hx hb dX7_listPieces_8 (by decide) ?_
                                                                refine lv_icmp_ge (tgt := 91) hx hb dX7_listPieces_10 (by decide) (fun c_125 => absurd c_125 (by decide)) (fun c_125 => ?_)
                                                                refine lv_iload_n hx hb dX7_listPieces_13 rfl (lv_at hl 2 rfl) ?_
                                                                refine lv_iload_n hx hb dX7_listPieces_14 rfl (lv_at hl 0 rfl) ?_
                                                                refine lv_iushr hx hb dX7_listPieces_15 rfl ?_
                                                                refine lv_topi (fun x_126 ex_126 => ?_)
                                                                refine lv_iconst (v := 1) hx hb dX7_listPieces_16 (by decide) ?_
                                                                refine lv_iand hx hb dX7_listPieces_17 ?_
                                                                refine lv_topi (fun x_127 ex_127 => ?_)
                                                                refine lv_iconst (v := 1) hx hb dX7_listPieces_18 (by decide) ?_
                                                                refine lv_icmp_ne (tgt := 85) hx hb dX7_listPieces_19 (by decide) (fun c_128 => ?_) (fun c_128 => ?_)
                                                                · refine lv_iinc (v := 32) (lv' := [(2, .int 32), (0, .ref h0), (1, .int p0)]) hx hb dX7_listPieces_85 hl (k := 0) rfl (by decide) (by decide) rfl (fun ls hl => ?_)
                                                                  refine lv_goto (tgt := 7) hx hb dX7_listPieces_88 (by decide) ?_
                                                                  refine lv_iload_n hx hb dX7_listPieces_7 rfl (lv_at hl 0 rfl) ?_
                                                                  refine lv_bipush (v := 32) hx hb dX7_listPieces_8 (by decide) ?_
                                                                  refine lv_icmp_ge (tgt := 91) hx hb dX7_listPieces_10 (by decide) (fun c_129 => ?_) (fun c_129 => absurd c_129 (fun z => z (by decide)))
                                                                  refine lv_aload_n hx hb dX7_listPieces_91 rfl (lv_at hl 1 rfl) ?_
                                                                  refine va_get (D := (dC, dI)) (ci := 7) (v := .int 0) (C := RX7) (T := TX7) (N := 13) hx hb hts (fun _ hh => (List.mem_cons_of_mem _ (List.mem_append_right _ (List.mem_append_left _ hh)))) hown hK hP 0 rfl rfl 3 (by decide) (hts (.fieldLink RX7 42 "TypingPool$Planner" "pieceCount" "I") (List.mem_cons_of_mem _ (List.mem_append_left _ (List.mem_of_getElem? (i := 0) rfl)))) (fun _ h9 => h9) rfl dX7_listPieces_92 ?_
                                                                  refine lv_if_le (tgt := 102) hx hb dX7_listPieces_95 (by decide) (fun c_130 => ?_) (fun c_130 => absurd c_130 (fun z => z (by decide)))
                                                                  refine lv_iconst (v := 0) hx hb dX7_listPieces_102 (by decide) ?_
                                                                  have hP9 := hP.sub (ws' := [(h0, .inr (7, [.ref bo, .ref l1, .ref l2, .int 0, .ref l3, .int 0, .ref l4, .ref l5, .ref l6, .int 0, .int 0, .int 0, .int 0])), (bo, .inr (1, [.ref b0, .int 0, .ref b1, .int 0, .ref b2, .int 0, .ref b3, .int 0]))]) [0, 1] rfl
                                                                  have hD9 := hD.sub (ws' := [(h0, .inr (7, [.ref bo, .ref l1, .ref l2, .int 0, .ref l3, .int 0, .ref l4, .ref l5, .ref l6, .int 0, .int 0, .int 0, .int 0])), (bo, .inr (1, [.ref b0, .int 0, .ref b1, .int 0, .ref b2, .int 0, .ref b3, .int 0]))]) [0, 1] (by decide) rfl
                                                                  have hK9 := hK.sub (tys' := []) [] rfl
                                                                  exact W.zret (v := 0) hx hb hr (by decide) (fun t ht hW => ⟨⟨0, 0, rfl, rfl, ⟨rfl, by rw [ht]; exact hP9, va_K.moved hW.alike hK9, hD9⟩⟩, hS.F ht⟩) hS.2.2 dX7_listPieces_103
                                                                · refine lv_aload_n hx hb dX7_listPieces_22 rfl (lv_at hl 1 rfl) ?_
                                                                  refine va_get (D := (dC, dI)) (ci := 7) (v := .ref bo) (C := RX7) (T := TX7) (N := 13) hx hb hts (fun _ hh => (List.mem_cons_of_mem _ (List.mem_append_right _ (List.mem_append_left _ hh)))) hown hK hP 0 rfl rfl 0 (by decide) (hts (.fieldLink RX7 27 "TypingPool$Planner" "book" "LTypingPool$Book;") (List.mem_cons_of_mem _ (List.mem_append_left _ (List.mem_of_getElem? (i := 1) rfl)))) (fun _ h9 => h9) rfl dX7_listPieces_23 ?_
                                                                  refine lv_iload_n hx hb dX7_listPieces_26 rfl (lv_at hl 0 rfl) ?_
                                                                  have hPc := hP.sub (ws' := [(bo, .inr (1, [.ref b0, .int 0, .ref b1, .int 0, .ref b2, .int 0, .ref b3, .int 0]))]) [1] rfl
                                                                  have hDc := hD.sub (ws' := [(bo, .inr (1, [.ref b0, .int 0, .ref b1, .int 0, .ref b2, .int 0, .ref b3, .int 0]))]) [1] (by decide) rfl
                                                                  have hKc := hK.sub (tys' := []) [] rfl
                                                                  have hFc := va_free (wc := [(bo, .inr (1, [.ref b0, .int 0, .ref b1, .int 0, .ref b2, .int 0, .ref b3, .int 0]))]) hD hS hA [1] rfl
                                                                  refine va_calli (va_runV (As := [.int 31]) (rest := []) ⟨hx, hb, hml, hown, hts⟩ (c_hasPiece0 l dC dI ad av H.size bo b0 b1 b2 b3 31 ) (cwV 1 hts (gi_4 (List.mem_cons_of_mem _ (List.mem_append_left _ (List.mem_of_getElem? (i := 2) rfl))) (List.mem_cons_of_mem _ (List.mem_append_left _ (List.mem_of_getElem? (i := 3) rfl))) (List.mem_cons_of_mem _ (List.mem_append_left _ (List.mem_of_getElem? (i := 4) rfl))) (List.mem_cons_of_mem _ (List.mem_append_left _ (List.mem_of_getElem? (i := 5) rfl))) (fun _ hh => (List.mem_cons_of_mem _ (List.mem_append_right _ (List.mem_append_right _ (List.mem_append_left _ hh))))) gd_c_hasPiece0) rfl rfl rfl (by decide +kernel) ⟨Nat.le_of_ble_eq_true rfl, Nat.le_of_ble_eq_true rfl⟩) ⟨pr_blind, va_recv hKc hPc (ci := 1) (q0 := 0) rfl rfl, pr_use hPc hKc hDc hFc hS hM⟩ rfl rfl hl.1 rfl (lv_room (Nat.le_of_ble_eq_true rfl)) dX7_listPieces_27 ⟨Nat.le_of_ble_eq_true rfl, Nat.le_of_ble_eq_true rfl⟩) hS (fun q _ h => hFc q h) hFc (fun r_131 u t H locs ht hvm hw hB hz1 hk1 hS => ?_)
                                                                  refine W.widen (k := 0) (n := 0) (Nat.le_of_ble_eq_true rfl) (Nat.le_of_ble_eq_true rfl) ?_
                                                                  subst hw
                                                                  obtain ⟨hre_132, hP1, hK1, hD1⟩ := hB
                                                                  refine lq_top (v := 0) hre_132 ?_
                                                                  rw [ht] at hP1
                                                                  have hK1 := va_K.moved hvm.symm hK1
                                                                  obtain ⟨hP, hD⟩ := va_join (wr := [(h0, .inr (7, [.ref bo, .ref l1, .ref l2, .int 0, .ref l3, .int 0, .ref l4, .ref l5, .ref l6, .int 0, .int 0, .int 0, .int 0]))]) (w1 := [(bo, .inr (1, [.ref b0, .int 0, .ref b1, .int 0, .ref b2, .int 0, .ref b3, .int 0]))]) hP hD [1] [0] rfl rfl (by decide) (by decide) hk1 hFc hP1 hD1
                                                                  have hK := (hK.sub (tys' := []) [] rfl).app hK1
                                                                  have hP : va_P (dC, dI) vwCl [(h0, .inr (7, [.ref bo, .ref l1, .ref l2, .int 0, .ref l3, .int 0, .ref l4, .ref l5, .ref l6, .int 0, .int 0, .int 0, .int 0])), (bo, .inr (1, [.ref b0, .int 0, .ref b1, .int 0, .ref b2, .int 0, .ref b3, .int 0]))] H := hP
                                                                  have hD : va_D A [(h0, .inr (7, [.ref bo, .ref l1, .ref l2, .int 0, .ref l3, .int 0, .ref l4, .ref l5, .ref l6, .int 0, .int 0, .int 0, .int 0])), (bo, .inr (1, [.ref b0, .int 0, .ref b1, .int 0, .ref b2, .int 0, .ref b3, .int 0]))] := hD
                                                                  have hK : va_K (dC, dI) vwCl [] s := hK
                                                                  refine lv_if_eq (tgt := 57) hx hb dX7_listPieces_30 (by decide) (fun c_133 => ?_) (fun c_133 => absurd c_133 (fun z => z (by decide)))
                                                                  refine lv_iconst (v := 0) hx hb dX7_listPieces_57 (by decide) ?_
                                                                  refine lv_istore_n (lv' := [(3, .int 0), (2, .int 31), (0, .ref h0), (1, .int p0)]) hx hb dX7_listPieces_58 rfl hl (by decide) rfl (fun ls hl => ?_)
                                                                  refine lv_iload_n hx hb dX7_listPieces_59 rfl (lv_at hl 0 rfl) ?_
                                                                  refine lv_if_ne (tgt := 65) hx hb dX7_listPieces_60 (by decide) (fun c_134 => absurd c_134 (fun z => z (by decide))) (fun c_134 => ?_)
                                                                  refine lv_iconst (v := 0) hx hb dX7_listPieces_63 (by decide) ?_
                                                                  have hP9 := hP.sub (ws' := [(h0, .inr (7, [.ref bo, .ref l1, .ref l2, .int 0, .ref l3, .int 0, .ref l4, .ref l5, .ref l6, .int 0, .int 0, .int 0, .int 0])), (bo, .inr (1, [.ref b0, .int 0, .ref b1, .int 0, .ref b2, .int 0, .ref b3, .int 0]))]) [0, 1] rfl
                                                                  have hD9 := hD.sub (ws' := [(h0, .inr (7, [.ref bo, .ref l1, .ref l2, .int 0, .ref l3, .int 0, .ref l4, .ref l5, .ref l6, .int 0, .int 0, .int 0, .int 0])), (bo, .inr (1, [.ref b0, .int 0, .ref b1, .int 0, .ref b2, .int 0, .ref b3, .int 0]))]) [0, 1] (by decide) rfl
                                                                  have hK9 := hK.sub (tys' := []) [] rfl
                                                                  exact W.zret (v := 0) hx hb hr (by decide) (fun t ht hW => ⟨⟨0, 0, rfl, rfl, ⟨rfl, by rw [ht]; exact hP9, va_K.moved hW.alike hK9, hD9⟩⟩, hS.F ht⟩) hS.2.2 dX7_listPieces_64
                                                              · refine lv_aload_n hx hb dX7_listPieces_22 rfl (lv_at hl 1 rfl) ?_
                                                                refine va_get (D := (dC, dI)) (ci := 7) (v := .ref bo) (C := RX7) (T := TX7) (N := 13) hx hb hts (fun _ hh => (List.mem_cons_of_mem _ (List.mem_append_right _ (List.mem_append_left _ hh)))) hown hK hP 0 rfl rfl 0 (by decide) (hts (.fieldLink RX7 27 "TypingPool$Planner" "book" "LTypingPool$Book;") (List.mem_cons_of_mem _ (List.mem_append_left _ (List.mem_of_getElem? (i := 1) rfl)))) (fun _ h9 => h9) rfl dX7_listPieces_23 ?_
                                                                refine lv_iload_n hx hb dX7_listPieces_26 rfl (lv_at hl 0 rfl) ?_
                                                                have hPc := hP.sub (ws' := [(bo, .inr (1, [.ref b0, .int 0, .ref b1, .int 0, .ref b2, .int 0, .ref b3, .int 0]))]) [1] rfl
                                                                have hDc := hD.sub (ws' := [(bo, .inr (1, [.ref b0, .int 0, .ref b1, .int 0, .ref b2, .int 0, .ref b3, .int 0]))]) [1] (by decide) rfl
                                                                have hKc := hK.sub (tys' := []) [] rfl
                                                                have hFc := va_free (wc := [(bo, .inr (1, [.ref b0, .int 0, .ref b1, .int 0, .ref b2, .int 0, .ref b3, .int 0]))]) hD hS hA [1] rfl
                                                                refine va_calli (va_runV (As := [.int 30]) (rest := []) ⟨hx, hb, hml, hown, hts⟩ (c_hasPiece0 l dC dI ad av H.size bo b0 b1 b2 b3 30 ) (cwV 1 hts (gi_4 (List.mem_cons_of_mem _ (List.mem_append_left _ (List.mem_of_getElem? (i := 2) rfl))) (List.mem_cons_of_mem _ (List.mem_append_left _ (List.mem_of_getElem? (i := 3) rfl))) (List.mem_cons_of_mem _ (List.mem_append_left _ (List.mem_of_getElem? (i := 4) rfl))) (List.mem_cons_of_mem _ (List.mem_append_left _ (List.mem_of_getElem? (i := 5) rfl))) (fun _ hh => (List.mem_cons_of_mem _ (List.mem_append_right _ (List.mem_append_right _ (List.mem_append_left _ hh))))) gd_c_hasPiece0) rfl rfl rfl (by decide +kernel) ⟨Nat.le_of_ble_eq_true rfl, Nat.le_of_ble_eq_true rfl⟩) ⟨pr_blind, va_recv hKc hPc (ci := 1) (q0 := 0) rfl rfl, pr_use hPc hKc hDc hFc hS hM⟩ rfl rfl hl.1 rfl (lv_room (Nat.le_of_ble_eq_true rfl)) dX7_listPieces_27 ⟨Nat.le_of_ble_eq_true rfl, Nat.le_of_ble_eq_true rfl⟩) hS (fun q _ h => hFc q h) hFc (fun r_135 u t H locs ht hvm hw hB hz1 hk1 hS => ?_)
                                                                refine W.widen (k := 0) (n := 0) (Nat.le_of_ble_eq_true rfl) (Nat.le_of_ble_eq_true rfl) ?_
                                                                subst hw
                                                                obtain ⟨hre_136, hP1, hK1, hD1⟩ := hB
                                                                refine lq_top (v := 0) hre_136 ?_
                                                                rw [ht] at hP1
                                                                have hK1 := va_K.moved hvm.symm hK1
                                                                obtain ⟨hP, hD⟩ := va_join (wr := [(h0, .inr (7, [.ref bo, .ref l1, .ref l2, .int 0, .ref l3, .int 0, .ref l4, .ref l5, .ref l6, .int 0, .int 0, .int 0, .int 0]))]) (w1 := [(bo, .inr (1, [.ref b0, .int 0, .ref b1, .int 0, .ref b2, .int 0, .ref b3, .int 0]))]) hP hD [1] [0] rfl rfl (by decide) (by decide) hk1 hFc hP1 hD1
                                                                have hK := (hK.sub (tys' := []) [] rfl).app hK1
                                                                have hP : va_P (dC, dI) vwCl [(h0, .inr (7, [.ref bo, .ref l1, .ref l2, .int 0, .ref l3, .int 0, .ref l4, .ref l5, .ref l6, .int 0, .int 0, .int 0, .int 0])), (bo, .inr (1, [.ref b0, .int 0, .ref b1, .int 0, .ref b2, .int 0, .ref b3, .int 0]))] H := hP
                                                                have hD : va_D A [(h0, .inr (7, [.ref bo, .ref l1, .ref l2, .int 0, .ref l3, .int 0, .ref l4, .ref l5, .ref l6, .int 0, .int 0, .int 0, .int 0])), (bo, .inr (1, [.ref b0, .int 0, .ref b1, .int 0, .ref b2, .int 0, .ref b3, .int 0]))] := hD
                                                                have hK : va_K (dC, dI) vwCl [] s := hK
                                                                refine lv_if_eq (tgt := 57) hx hb dX7_listPieces_30 (by decide) (fun c_137 => ?_) (fun c_137 => absurd c_137 (fun z => z (by decide)))
                                                                refine lv_iconst (v := 0) hx hb dX7_listPieces_57 (by decide) ?_
                                                                refine lv_istore_n (lv' := [(3, .int 0), (2, .int 30), (0, .ref h0), (1, .int p0)]) hx hb dX7_listPieces_58 rfl hl (by decide) rfl (fun ls hl => ?_)
                                                                refine lv_iload_n hx hb dX7_listPieces_59 rfl (lv_at hl 0 rfl) ?_
                                                                refine lv_if_ne (tgt := 65) hx hb dX7_listPieces_60 (by decide) (fun c_138 => absurd c_138 (fun z => z (by decide))) (fun c_138 => ?_)
                                                                refine lv_iconst (v := 0) hx hb dX7_listPieces_63 (by decide) ?_
                                                                have hP9 := hP.sub (ws' := [(h0, .inr (7, [.ref bo, .ref l1, .ref l2, .int 0, .ref l3, .int 0, .ref l4, .ref l5, .ref l6, .int 0, .int 0, .int 0, .int 0])), (bo, .inr (1, [.ref b0, .int 0, .ref b1, .int 0, .ref b2, .int 0, .ref b3, .int 0]))]) [0, 1] rfl
                                                                have hD9 := hD.sub (ws' := [(h0, .inr (7, [.ref bo, .ref l1, .ref l2, .int 0, .ref l3, .int 0, .ref l4, .ref l5, .ref l6, .int 0, .int 0, .int 0, .int 0])), (bo, .inr (1, [.ref b0, .int 0, .ref b1, .int 0, .ref b2, .int 0, .ref b3, .int 0]))]) [0, 1] (by decide) rfl
                                                                have hK9 := hK.sub (tys' := []) [] rfl
                                                                exact W.zret (v := 0) hx hb hr (by decide) (fun t ht hW => ⟨⟨0, 0, rfl, rfl, ⟨rfl, by rw [ht]; exact hP9, va_K.moved hW.alike hK9, hD9⟩⟩, hS.F ht⟩) hS.2.2 dX7_listPieces_64
                                                            · refine lv_aload_n hx hb dX7_listPieces_22 rfl (lv_at hl 1 rfl) ?_
                                                              refine va_get (D := (dC, dI)) (ci := 7) (v := .ref bo) (C := RX7) (T := TX7) (N := 13) hx hb hts (fun _ hh => (List.mem_cons_of_mem _ (List.mem_append_right _ (List.mem_append_left _ hh)))) hown hK hP 0 rfl rfl 0 (by decide) (hts (.fieldLink RX7 27 "TypingPool$Planner" "book" "LTypingPool$Book;") (List.mem_cons_of_mem _ (List.mem_append_left _ (List.mem_of_getElem? (i := 1) rfl)))) (fun _ h9 => h9) rfl dX7_listPieces_23 ?_
                                                              refine lv_iload_n hx hb dX7_listPieces_26 rfl (lv_at hl 0 rfl) ?_
                                                              have hPc := hP.sub (ws' := [(bo, .inr (1, [.ref b0, .int 0, .ref b1, .int 0, .ref b2, .int 0, .ref b3, .int 0]))]) [1] rfl
                                                              have hDc := hD.sub (ws' := [(bo, .inr (1, [.ref b0, .int 0, .ref b1, .int 0, .ref b2, .int 0, .ref b3, .int 0]))]) [1] (by decide) rfl
                                                              have hKc := hK.sub (tys' := []) [] rfl
                                                              have hFc := va_free (wc := [(bo, .inr (1, [.ref b0, .int 0, .ref b1, .int 0, .ref b2, .int 0, .ref b3, .int 0]))]) hD hS hA [1] rfl
                                                              refine va_calli (va_runV (As := [.int 29]) (rest := []) ⟨hx, hb, hml, hown, hts⟩ (c_hasPiece0 l dC dI ad av H.size bo b0 b1 b2 b3 29 ) (cwV 1 hts (gi_4 (List.mem_cons_of_mem _ (List.mem_append_left _ (List.mem_of_getElem? (i := 2) rfl))) (List.mem_cons_of_mem _ (List.mem_append_left _ (List.mem_of_getElem? (i := 3) rfl))) (List.mem_cons_of_mem _ (List.mem_append_left _ (List.mem_of_getElem? (i := 4) rfl))) (List.mem_cons_of_mem _ (List.mem_append_left _ (List.mem_of_getElem? (i := 5) rfl))) (fun _ hh => (List.mem_cons_of_mem _ (List.mem_append_right _ (List.mem_append_right _ (List.mem_append_left _ hh))))) gd_c_hasPiece0) rfl rfl rfl (by decide +kernel) ⟨Nat.le_of_ble_eq_true rfl, Nat.le_of_ble_eq_true rfl⟩) ⟨pr_blind, va_recv hKc hPc (ci := 1) (q0 := 0) rfl rfl, pr_use hPc hKc hDc hFc hS hM⟩ rfl rfl hl.1 rfl (lv_room (Nat.le_of_ble_eq_true rfl)) dX7_listPieces_27 ⟨Nat.le_of_ble_eq_true rfl, Nat.le_of_ble_eq_true rfl⟩) hS (fun q _ h => hFc q h) hFc (fun r_139 u t H locs ht hvm hw hB hz1 hk1 hS => ?_)
                                                              refine W.widen (k := 0) (n := 0) (Nat.le_of_ble_eq_true rfl) (Nat.le_of_ble_eq_true rfl) ?_
                                                              subst hw
                                                              obtain ⟨hre_140, hP1, hK1, hD1⟩ := hB
                                                              refine lq_top (v := 0) hre_140 ?_
                                                              rw [ht] at hP1
                                                              have hK1 := va_K.moved hvm.symm hK1
                                                              obtain ⟨hP, hD⟩ := va_join (wr := [(h0, .inr (7, [.ref bo, .ref l1, .ref l2, .int 0, .ref l3, .int 0, .ref l4, .ref l5, .ref l6, .int 0, .int 0, .int 0, .int 0]))]) (w1 := [(bo, .inr (1, [.ref b0, .int 0, .ref b1, .int 0, .ref b2, .int 0, .ref b3, .int 0]))]) hP hD [1] [0] rfl rfl (by decide) (by decide) hk1 hFc hP1 hD1
                                                              have hK := (hK.sub (tys' := []) [] rfl).app hK1
                                                              have hP : va_P (dC, dI) vwCl [(h0, .inr (7, [.ref bo, .ref l1, .ref l2, .int 0, .ref l3, .int 0, .ref l4, .ref l5, .ref l6, .int 0, .int 0, .int 0, .int 0])), (bo, .inr (1, [.ref b0, .int 0, .ref b1, .int 0, .ref b2, .int 0, .ref b3, .int 0]))] H := hP
                                                              have hD : va_D A [(h0, .inr (7, [.ref bo, .ref l1, .ref l2, .int 0, .ref l3, .int 0, .ref l4, .ref l5, .ref l6, .int 0, .int 0, .int 0, .int 0])), (bo, .inr (1, [.ref b0, .int 0, .ref b1, .int 0, .ref b2, .int 0, .ref b3, .int 0]))] := hD
                                                              have hK : va_K (dC, dI) vwCl [] s := hK
                                                              refine lv_if_eq (tgt := 57) hx hb dX7_listPieces_30 (by decide) (fun c_141 => ?_) (fun c_141 => absurd c_141 (fun z => z (by decide)))
                                                              refine lv_iconst (v := 0) hx hb dX7_listPieces_57 (by decide) ?_
                                                              refine lv_istore_n (lv' := [(3, .int 0), (2, .int 29), (0, .ref h0), (1, .int p0)]) hx hb dX7_listPieces_58 rfl hl (by decide) rfl (fun ls hl => ?_)
                                                              refine lv_iload_n hx hb dX7_listPieces_59 rfl (lv_at hl 0 rfl) ?_
                                                              refine lv_if_ne (tgt := 65) hx hb dX7_listPieces_60 (by decide) (fun c_142 => absurd c_142 (fun z => z (by decide))) (fun c_142 => ?_)
                                                              refine lv_iconst (v := 0) hx hb dX7_listPieces_63 (by decide) ?_
                                                              have hP9 := hP.sub (ws' := [(h0, .inr (7, [.ref bo, .ref l1, .ref l2, .int 0, .ref l3, .int 0, .ref l4, .ref l5, .ref l6, .int 0, .int 0, .int 0, .int 0])), (bo, .inr (1, [.ref b0, .int 0, .ref b1, .int 0, .ref b2, .int 0, .ref b3, .int 0]))]) [0, 1] rfl
                                                              have hD9 := hD.sub (ws' := [(h0, .inr (7, [.ref bo, .ref l1, .ref l2, .int 0, .ref l3, .int 0, .ref l4, .ref l5, .ref l6, .int 0, .int 0, .int 0, .int 0])), (bo, .inr (1, [.ref b0, .int 0, .ref b1, .int 0, .ref b2, .int 0, .ref b3, .int 0]))]) [0, 1] (by decide) rfl
                                                              have hK9 := hK.sub (tys' := []) [] rfl
                                                              exact W.zret (v := 0) hx hb hr (by decide) (fun t ht hW => ⟨⟨0, 0, rfl, rfl, ⟨rfl, by rw [ht]; exact hP9, va_K.moved hW.alike hK9, hD9⟩⟩, hS.F ht⟩) hS.2.2 dX7_listPieces_64
                                                          · refine lv_aload_n hx hb dX7_listPieces_22 rfl (lv_at hl 1 rfl) ?_
                                                            refine va_get (D := (dC, dI)) (ci := 7) (v := .ref bo) (C := RX7) (T := TX7) (N := 13) hx hb hts (fun _ hh => (List.mem_cons_of_mem _ (List.mem_append_right _ (List.mem_append_left _ hh)))) hown hK hP 0 rfl rfl 0 (by decide) (hts (.fieldLink RX7 27 "TypingPool$Planner" "book" "LTypingPool$Book;") (List.mem_cons_of_mem _ (List.mem_append_left _ (List.mem_of_getElem? (i := 1) rfl)))) (fun _ h9 => h9) rfl dX7_listPieces_23 ?_
                                                            refine lv_iload_n hx hb dX7_listPieces_26 rfl (lv_at hl 0 rfl) ?_
                                                            have hPc := hP.sub (ws' := [(bo, .inr (1, [.ref b0, .int 0, .ref b1, .int 0, .ref b2, .int 0, .ref b3, .int 0]))]) [1] rfl
                                                            have hDc := hD.sub (ws' := [(bo, .inr (1, [.ref b0, .int 0, .ref b1, .int 0, .ref b2, .int 0, .ref b3, .int 0]))]) [1] (by decide) rfl
                                                            have hKc := hK.sub (tys' := []) [] rfl
                                                            have hFc := va_free (wc := [(bo, .inr (1, [.ref b0, .int 0, .ref b1, .int 0, .ref b2, .int 0, .ref b3, .int 0]))]) hD hS hA [1] rfl
                                                            refine va_calli (va_runV (As := [.int 28]) (rest := []) ⟨hx, hb, hml, hown, hts⟩ (c_hasPiece0 l dC dI ad av H.size bo b0 b1 b2 b3 28 ) (cwV 1 hts (gi_4 (List.mem_cons_of_mem _ (List.mem_append_left _ (List.mem_of_getElem? (i := 2) rfl))) (List.mem_cons_of_mem _ (List.mem_append_left _ (List.mem_of_getElem? (i := 3) rfl))) (List.mem_cons_of_mem _ (List.mem_append_left _ (List.mem_of_getElem? (i := 4) rfl))) (List.mem_cons_of_mem _ (List.mem_append_left _ (List.mem_of_getElem? (i := 5) rfl))) (fun _ hh => (List.mem_cons_of_mem _ (List.mem_append_right _ (List.mem_append_right _ (List.mem_append_left _ hh))))) gd_c_hasPiece0) rfl rfl rfl (by decide +kernel) ⟨Nat.le_of_ble_eq_true rfl, Nat.le_of_ble_eq_true rfl⟩) ⟨pr_blind, va_recv hKc hPc (ci := 1) (q0 := 0) rfl rfl, pr_use hPc hKc hDc hFc hS hM⟩ rfl rfl hl.1 rfl (lv_room (Nat.le_of_ble_eq_true rfl)) dX7_listPieces_27 ⟨Nat.le_of_ble_eq_true rfl, Nat.le_of_ble_eq_true rfl⟩) hS (fun q _ h => hFc q h) hFc (fun r_143 u t H locs ht hvm hw hB hz1 hk1 hS => ?_)
                                                            refine W.widen (k := 0) (n := 0) (Nat.le_of_ble_eq_true rfl) (Nat.le_of_ble_eq_true rfl) ?_
                                                            subst hw
                                                            obtain ⟨hre_144, hP1, hK1, hD1⟩ := hB
                                                            refine lq_top (v := 0) hre_144 ?_
                                                            rw [ht] at hP1
                                                            have hK1 := va_K.moved hvm.symm hK1
                                                            obtain ⟨hP, hD⟩ := va_join (wr := [(h0, .inr (7, [.ref bo, .ref l1, .ref l2, .int 0, .ref l3, .int 0, .ref l4, .ref l5, .ref l6, .int 0, .int 0, .int 0, .int 0]))]) (w1 := [(bo, .inr (1, [.ref b0, .int 0, .ref b1, .int 0, .ref b2, .int 0, .ref b3, .int 0]))]) hP hD [1] [0] rfl rfl (by decide) (by decide) hk1 hFc hP1 hD1
                                                            have hK := (hK.sub (tys' := []) [] rfl).app hK1
                                                            have hP : va_P (dC, dI) vwCl [(h0, .inr (7, [.ref bo, .ref l1, .ref l2, .int 0, .ref l3, .int 0, .ref l4, .ref l5, .ref l6, .int 0, .int 0, .int 0, .int 0])), (bo, .inr (1, [.ref b0, .int 0, .ref b1, .int 0, .ref b2, .int 0, .ref b3, .int 0]))] H := hP
                                                            have hD : va_D A [(h0, .inr (7, [.ref bo, .ref l1, .ref l2, .int 0, .ref l3, .int 0, .ref l4, .ref l5, .ref l6, .int 0, .int 0, .int 0, .int 0])), (bo, .inr (1, [.ref b0, .int 0, .ref b1, .int 0, .ref b2, .int 0, .ref b3, .int 0]))] := hD
                                                            have hK : va_K (dC, dI) vwCl [] s := hK
                                                            refine lv_if_eq (tgt := 57) hx hb dX7_listPieces_30 (by decide) (fun c_145 => ?_) (fun c_145 => absurd c_145 (fun z => z (by decide)))
                                                            refine lv_iconst (v := 0) hx hb dX7_listPieces_57 (by decide) ?_
                                                            refine lv_istore_n (lv' := [(3, .int 0), (2, .int 28), (0, .ref h0), (1, .int p0)]) hx hb dX7_listPieces_58 rfl hl (by decide) rfl (fun ls hl => ?_)
                                                            refine lv_iload_n hx hb dX7_listPieces_59 rfl (lv_at hl 0 rfl) ?_
                                                            refine lv_if_ne (tgt := 65) hx hb dX7_listPieces_60 (by decide) (fun c_146 => absurd c_146 (fun z => z (by decide))) (fun c_146 => ?_)
                                                            refine lv_iconst (v := 0) hx hb dX7_listPieces_63 (by decide) ?_
                                                            have hP9 := hP.sub (ws' := [(h0, .inr (7, [.ref bo, .ref l1, .ref l2, .int 0, .ref l3, .int 0, .ref l4, .ref l5, .ref l6, .int 0, .int 0, .int 0, .int 0])), (bo, .inr (1, [.ref b0, .int 0, .ref b1, .int 0, .ref b2, .int 0, .ref b3, .int 0]))]) [0, 1] rfl
                                                            have hD9 := hD.sub (ws' := [(h0, .inr (7, [.ref bo, .ref l1, .ref l2, .int 0, .ref l3, .int 0, .ref l4, .ref l5, .ref l6, .int 0, .int 0, .int 0, .int 0])), (bo, .inr (1, [.ref b0, .int 0, .ref b1, .int 0, .ref b2, .int 0, .ref b3, .int 0]))]) [0, 1] (by decide) rfl
                                                            have hK9 := hK.sub (tys' := []) [] rfl
                                                            exact W.zret (v := 0) hx hb hr (by decide) (fun t ht hW => ⟨⟨0, 0, rfl, rfl, ⟨rfl, by rw [ht]; exact hP9, va_K.moved hW.alike hK9, hD9⟩⟩, hS.F ht⟩) hS.2.2 dX7_listPieces_64
                                                        · refine lv_aload_n hx hb dX7_listPieces_22 rfl (lv_at hl 1 rfl) ?_
                                                          refine va_get (D := (dC, dI)) (ci := 7) (v := .ref bo) (C := RX7) (T := TX7) (N := 13) hx hb hts (fun _ hh => (List.mem_cons_of_mem _ (List.mem_append_right _ (List.mem_append_left _ hh)))) hown hK hP 0 rfl rfl 0 (by decide) (hts (.fieldLink RX7 27 "TypingPool$Planner" "book" "LTypingPool$Book;") (List.mem_cons_of_mem _ (List.mem_append_left _ (List.mem_of_getElem? (i := 1) rfl)))) (fun _ h9 => h9) rfl dX7_listPieces_23 ?_
                                                          refine lv_iload_n hx hb dX7_listPieces_26 rfl (lv_at hl 0 rfl) ?_
                                                          have hPc := hP.sub (ws' := [(bo, .inr (1, [.ref b0, .int 0, .ref b1, .int 0, .ref b2, .int 0, .ref b3, .int 0]))]) [1] rfl
                                                          have hDc := hD.sub (ws' := [(bo, .inr (1, [.ref b0, .int 0, .ref b1, .int 0, .ref b2, .int 0, .ref b3, .int 0]))]) [1] (by decide) rfl
                                                          have hKc := hK.sub (tys' := []) [] rfl
                                                          have hFc := va_free (wc := [(bo, .inr (1, [.ref b0, .int 0, .ref b1, .int 0, .ref b2, .int 0, .ref b3, .int 0]))]) hD hS hA [1] rfl
                                                          refine va_calli (va_runV (As := [.int 27]) (rest := []) ⟨hx, hb, hml, hown, hts⟩ (c_hasPiece0 l dC dI ad av H.size bo b0 b1 b2 b3 27 ) (cwV 1 hts (gi_4 (List.mem_cons_of_mem _ (List.mem_append_left _ (List.mem_of_getElem? (i := 2) rfl))) (List.mem_cons_of_mem _ (List.mem_append_left _ (List.mem_of_getElem? (i := 3) rfl))) (List.mem_cons_of_mem _ (List.mem_append_left _ (List.mem_of_getElem? (i := 4) rfl))) (List.mem_cons_of_mem _ (List.mem_append_left _ (List.mem_of_getElem? (i := 5) rfl))) (fun _ hh => (List.mem_cons_of_mem _ (List.mem_append_right _ (List.mem_append_right _ (List.mem_append_left _ hh))))) gd_c_hasPiece0) rfl rfl rfl (by decide +kernel) ⟨Nat.le_of_ble_eq_true rfl, Nat.le_of_ble_eq_true rfl⟩) ⟨pr_blind, va_recv hKc hPc (ci := 1) (q0 := 0) rfl rfl, pr_use hPc hKc hDc hFc hS hM⟩ rfl rfl hl.1 rfl (lv_room (Nat.le_of_ble_eq_true rfl)) dX7_listPieces_27 ⟨Nat.le_of_ble_eq_true rfl, Nat.le_of_ble_eq_true rfl⟩) hS (fun q _ h => hFc q h) hFc (fun r_147 u t H locs ht hvm hw hB hz1 hk1 hS => ?_)
                                                          refine W.widen (k := 0) (n := 0) (Nat.le_of_ble_eq_true rfl) (Nat.le_of_ble_eq_true rfl) ?_
                                                          subst hw
                                                          obtain ⟨hre_148, hP1, hK1, hD1⟩ := hB
                                                          refine lq_top (v := 0) hre_148 ?_
                                                          rw [ht] at hP1
                                                          have hK1 := va_K.moved hvm.symm hK1
                                                          obtain ⟨hP, hD⟩ := va_join (wr := [(h0, .inr (7, [.ref bo, .ref l1, .ref l2, .int 0, .ref l3, .int 0, .ref l4, .ref l5, .ref l6, .int 0, .int 0, .int 0, .int 0]))]) (w1 := [(bo, .inr (1, [.ref b0, .int 0, .ref b1, .int 0, .ref b2, .int 0, .ref b3, .int 0]))]) hP hD [1] [0] rfl rfl (by decide) (by decide) hk1 hFc hP1 hD1
                                                          have hK := (hK.sub (tys' := []) [] rfl).app hK1
                                                          have hP : va_P (dC, dI) vwCl [(h0, .inr (7, [.ref bo, .ref l1, .ref l2, .int 0, .ref l3, .int 0, .ref l4, .ref l5, .ref l6, .int 0, .int 0, .int 0, .int 0])), (bo, .inr (1, [.ref b0, .int 0, .ref b1, .int 0, .ref b2, .int 0, .ref b3, .int 0]))] H := hP
                                                          have hD : va_D A [(h0, .inr (7, [.ref bo, .ref l1, .ref l2, .int 0, .ref l3, .int 0, .ref l4, .ref l5, .ref l6, .int 0, .int 0, .int 0, .int 0])), (bo, .inr (1, [.ref b0, .int 0, .ref b1, .int 0, .ref b2, .int 0, .ref b3, .int 0]))] := hD
                                                          have hK : va_K (dC, dI) vwCl [] s := hK
                                                          refine lv_if_eq (tgt := 57) hx hb dX7_listPieces_30 (by decide) (fun c_149 => ?_) (fun c_149 => absurd c_149 (fun z => z (by decide)))
                                                          refine lv_iconst (v := 0) hx hb dX7_listPieces_57 (by decide) ?_
                                                          refine lv_istore_n (lv' := [(3, .int 0), (2, .int 27), (0, .ref h0), (1, .int p0)]) hx hb dX7_listPieces_58 rfl hl (by decide) rfl (fun ls hl => ?_)
                                                          refine lv_iload_n hx hb dX7_listPieces_59 rfl (lv_at hl 0 rfl) ?_
                                                          refine lv_if_ne (tgt := 65) hx hb dX7_listPieces_60 (by decide) (fun c_150 => absurd c_150 (fun z => z (by decide))) (fun c_150 => ?_)
                                                          refine lv_iconst (v := 0) hx hb dX7_listPieces_63 (by decide) ?_
                                                          have hP9 := hP.sub (ws' := [(h0, .inr (7, [.ref bo, .ref l1, .ref l2, .int 0, .ref l3, .int 0, .ref l4, .ref l5, .ref l6, .int 0, .int 0, .int 0, .int 0])), (bo, .inr (1, [.ref b0, .int 0, .ref b1, .int 0, .ref b2, .int 0, .ref b3, .int 0]))]) [0, 1] rfl
                                                          have hD9 := hD.sub (ws' := [(h0, .inr (7, [.ref bo, .ref l1, .ref l2, .int 0, .ref l3, .int 0, .ref l4, .ref l5, .ref l6, .int 0, .int 0, .int 0, .int 0])), (bo, .inr (1, [.ref b0, .int 0, .ref b1, .int 0, .ref b2, .int 0, .ref b3, .int 0]))]) [0, 1] (by decide) rfl
                                                          have hK9 := hK.sub (tys' := []) [] rfl
                                                          exact W.zret (v := 0) hx hb hr (by decide) (fun t ht hW => ⟨⟨0, 0, rfl, rfl, ⟨rfl, by rw [ht]; exact hP9, va_K.moved hW.alike hK9, hD9⟩⟩, hS.F ht⟩) hS.2.2 dX7_listPieces_64
                                                      · refine lv_aload_n hx hb dX7_listPieces_22 rfl (lv_at hl 1 rfl) ?_
                                                        refine va_get (D := (dC, dI)) (ci := 7) (v := .ref bo) (C := RX7) (T := TX7) (N := 13) hx hb hts (fun _ hh => (List.mem_cons_of_mem _ (List.mem_append_right _ (List.mem_append_left _ hh)))) hown hK hP 0 rfl rfl 0 (by decide) (hts (.fieldLink RX7 27 "TypingPool$Planner" "book" "LTypingPool$Book;") (List.mem_cons_of_mem _ (List.mem_append_left _ (List.mem_of_getElem? (i := 1) rfl)))) (fun _ h9 => h9) rfl dX7_listPieces_23 ?_
                                                        refine lv_iload_n hx hb dX7_listPieces_26 rfl (lv_at hl 0 rfl) ?_
                                                        have hPc := hP.sub (ws' := [(bo, .inr (1, [.ref b0, .int 0, .ref b1, .int 0, .ref b2, .int 0, .ref b3, .int 0]))]) [1] rfl
                                                        have hDc := hD.sub (ws' := [(bo, .inr (1, [.ref b0, .int 0, .ref b1, .int 0, .ref b2, .int 0, .ref b3, .int 0]))]) [1] (by decide) rfl
                                                        have hKc := hK.sub (tys' := []) [] rfl
                                                        have hFc := va_free (wc := [(bo, .inr (1, [.ref b0, .int 0, .ref b1, .int 0, .ref b2, .int 0, .ref b3, .int 0]))]) hD hS hA [1] rfl
                                                        refine va_calli (va_runV (As := [.int 26]) (rest := []) ⟨hx, hb, hml, hown, hts⟩ (c_hasPiece0 l dC dI ad av H.size bo b0 b1 b2 b3 26 ) (cwV 1 hts (gi_4 (List.mem_cons_of_mem _ (List.mem_append_left _ (List.mem_of_getElem? (i := 2) rfl))) (List.mem_cons_of_mem _ (List.mem_append_left _ (List.mem_of_getElem? (i := 3) rfl))) (List.mem_cons_of_mem _ (List.mem_append_left _ (List.mem_of_getElem? (i := 4) rfl))) (List.mem_cons_of_mem _ (List.mem_append_left _ (List.mem_of_getElem? (i := 5) rfl))) (fun _ hh => (List.mem_cons_of_mem _ (List.mem_append_right _ (List.mem_append_right _ (List.mem_append_left _ hh))))) gd_c_hasPiece0) rfl rfl rfl (by decide +kernel) ⟨Nat.le_of_ble_eq_true rfl, Nat.le_of_ble_eq_true rfl⟩) ⟨pr_blind, va_recv hKc hPc (ci := 1) (q0 := 0) rfl rfl, pr_use hPc hKc hDc hFc hS hM⟩ rfl rfl hl.1 rfl (lv_room (Nat.le_of_ble_eq_true rfl)) dX7_listPieces_27 ⟨Nat.le_of_ble_eq_true rfl, Nat.le_of_ble_eq_true rfl⟩) hS (fun q _ h => hFc q h) hFc (fun r_151 u t H locs ht hvm hw hB hz1 hk1 hS => ?_)
                                                        refine W.widen (k := 0) (n := 0) (Nat.le_of_ble_eq_true rfl) (Nat.le_of_ble_eq_true rfl) ?_
                                                        subst hw
                                                        obtain ⟨hre_152, hP1, hK1, hD1⟩ := hB
                                                        refine lq_top (v := 0) hre_152 ?_
                                                        rw [ht] at hP1
                                                        have hK1 := va_K.moved hvm.symm hK1
                                                        obtain ⟨hP, hD⟩ := va_join (wr := [(h0, .inr (7, [.ref bo, .ref l1, .ref l2, .int 0, .ref l3, .int 0, .ref l4, .ref l5, .ref l6, .int 0, .int 0, .int 0, .int 0]))]) (w1 := [(bo, .inr (1, [.ref b0, .int 0, .ref b1, .int 0, .ref b2, .int 0, .ref b3, .int 0]))]) hP hD [1] [0] rfl rfl (by decide) (by decide) hk1 hFc hP1 hD1
                                                        have hK := (hK.sub (tys' := []) [] rfl).app hK1
                                                        have hP : va_P (dC, dI) vwCl [(h0, .inr (7, [.ref bo, .ref l1, .ref l2, .int 0, .ref l3, .int 0, .ref l4, .ref l5, .ref l6, .int 0, .int 0, .int 0, .int 0])), (bo, .inr (1, [.ref b0, .int 0, .ref b1, .int 0, .ref b2, .int 0, .ref b3, .int 0]))] H := hP
                                                        have hD : va_D A [(h0, .inr (7, [.ref bo, .ref l1, .ref l2, .int 0, .ref l3, .int 0, .ref l4, .ref l5, .ref l6, .int 0, .int 0, .int 0, .int 0])), (bo, .inr (1, [.ref b0, .int 0, .ref b1, .int 0, .ref b2, .int 0, .ref b3, .int 0]))] := hD
                                                        have hK : va_K (dC, dI) vwCl [] s := hK
                                                        refine lv_if_eq (tgt := 57) hx hb dX7_listPieces_30 (by decide) (fun c_153 => ?_) (fun c_153 => absurd c_153 (fun z => z (by decide)))
                                                        refine lv_iconst (v := 0) hx hb dX7_listPieces_57 (by decide) ?_
                                                        refine lv_istore_n (lv' := [(3, .int 0), (2, .int 26), (0, .ref h0), (1, .int p0)]) hx hb dX7_listPieces_58 rfl hl (by decide) rfl (fun ls hl => ?_)
                                                        refine lv_iload_n hx hb dX7_listPieces_59 rfl (lv_at hl 0 rfl) ?_
                                                        refine lv_if_ne (tgt := 65) hx hb dX7_listPieces_60 (by decide) (fun c_154 => absurd c_154 (fun z => z (by decide))) (fun c_154 => ?_)
                                                        refine lv_iconst (v := 0) hx hb dX7_listPieces_63 (by decide) ?_
                                                        have hP9 := hP.sub (ws' := [(h0, .inr (7, [.ref bo, .ref l1, .ref l2, .int 0, .ref l3, .int 0, .ref l4, .ref l5, .ref l6, .int 0, .int 0, .int 0, .int 0])), (bo, .inr (1, [.ref b0, .int 0, .ref b1, .int 0, .ref b2, .int 0, .ref b3, .int 0]))]) [0, 1] rfl
                                                        have hD9 := hD.sub (ws' := [(h0, .inr (7, [.ref bo, .ref l1, .ref l2, .int 0, .ref l3, .int 0, .ref l4, .ref l5, .ref l6, .int 0, .int 0, .int 0, .int 0])), (bo, .inr (1, [.ref b0, .int 0, .ref b1, .int 0, .ref b2, .int 0, .ref b3, .int 0]))]) [0, 1] (by decide) rfl
                                                        have hK9 := hK.sub (tys' := []) [] rfl
                                                        exact W.zret (v := 0) hx hb hr (by decide) (fun t ht hW => ⟨⟨0, 0, rfl, rfl, ⟨rfl, by rw [ht]; exact hP9, va_K.moved hW.alike hK9, hD9⟩⟩, hS.F ht⟩) hS.2.2 dX7_listPieces_64
                                                    · refine lv_aload_n hx hb dX7_listPieces_22 rfl (lv_at hl 1 rfl) ?_
                                                      refine va_get (D := (dC, dI)) (ci := 7) (v := .ref bo) (C := RX7) (T := TX7) (N := 13) hx hb hts (fun _ hh => (List.mem_cons_of_mem _ (List.mem_append_right _ (List.mem_append_left _ hh)))) hown hK hP 0 rfl rfl 0 (by decide) (hts (.fieldLink RX7 27 "TypingPool$Planner" "book" "LTypingPool$Book;") (List.mem_cons_of_mem _ (List.mem_append_left _ (List.mem_of_getElem? (i := 1) rfl)))) (fun _ h9 => h9) rfl dX7_listPieces_23 ?_
                                                      refine lv_iload_n hx hb dX7_listPieces_26 rfl (lv_at hl 0 rfl) ?_
                                                      have hPc := hP.sub (ws' := [(bo, .inr (1, [.ref b0, .int 0, .ref b1, .int 0, .ref b2, .int 0, .ref b3, .int 0]))]) [1] rfl
                                                      have hDc := hD.sub (ws' := [(bo, .inr (1, [.ref b0, .int 0, .ref b1, .int 0, .ref b2, .int 0, .ref b3, .int 0]))]) [1] (by decide) rfl
                                                      have hKc := hK.sub (tys' := []) [] rfl
                                                      have hFc := va_free (wc := [(bo, .inr (1, [.ref b0, .int 0, .ref b1, .int 0, .ref b2, .int 0, .ref b3, .int 0]))]) hD hS hA [1] rfl
                                                      refine va_calli (va_runV (As := [.int 25]) (rest := []) ⟨hx, hb, hml, hown, hts⟩ (c_hasPiece0 l dC dI ad av H.size bo b0 b1 b2 b3 25 ) (cwV 1 hts (gi_4 (List.mem_cons_of_mem _ (List.mem_append_left _ (List.mem_of_getElem? (i := 2) rfl))) (List.mem_cons_of_mem _ (List.mem_append_left _ (List.mem_of_getElem? (i := 3) rfl))) (List.mem_cons_of_mem _ (List.mem_append_left _ (List.mem_of_getElem? (i := 4) rfl))) (List.mem_cons_of_mem _ (List.mem_append_left _ (List.mem_of_getElem? (i := 5) rfl))) (fun _ hh => (List.mem_cons_of_mem _ (List.mem_append_right _ (List.mem_append_right _ (List.mem_append_left _ hh))))) gd_c_hasPiece0) rfl rfl rfl (by decide +kernel) ⟨Nat.le_of_ble_eq_true rfl, Nat.le_of_ble_eq_true rfl⟩) ⟨pr_blind, va_recv hKc hPc (ci := 1) (q0 := 0) rfl rfl, pr_use hPc hKc hDc hFc hS hM⟩ rfl rfl hl.1 rfl (lv_room (Nat.le_of_ble_eq_true rfl)) dX7_listPieces_27 ⟨Nat.le_of_ble_eq_true rfl, Nat.le_of_ble_eq_true rfl⟩) hS (fun q _ h => hFc q h) hFc (fun r_155 u t H locs ht hvm hw hB hz1 hk1 hS => ?_)
                                                      refine W.widen (k := 0) (n := 0) (Nat.le_of_ble_eq_true rfl) (Nat.le_of_ble_eq_true rfl) ?_
                                                      subst hw
                                                      obtain ⟨hre_156, hP1, hK1, hD1⟩ := hB
                                                      refine lq_top (v := 0) hre_156 ?_
                                                      rw [ht] at hP1
                                                      have hK1 := va_K.moved hvm.symm hK1
                                                      obtain ⟨hP, hD⟩ := va_join (wr := [(h0, .inr (7, [.ref bo, .ref l1, .ref l2, .int 0, .ref l3, .int 0, .ref l4, .ref l5, .ref l6, .int 0, .int 0, .int 0, .int 0]))]) (w1 := [(bo, .inr (1, [.ref b0, .int 0, .ref b1, .int 0, .ref b2, .int 0, .ref b3, .int 0]))]) hP hD [1] [0] rfl rfl (by decide) (by decide) hk1 hFc hP1 hD1
                                                      have hK := (hK.sub (tys' := []) [] rfl).app hK1
                                                      have hP : va_P (dC, dI) vwCl [(h0, .inr (7, [.ref bo, .ref l1, .ref l2, .int 0, .ref l3, .int 0, .ref l4, .ref l5, .ref l6, .int 0, .int 0, .int 0, .int 0])), (bo, .inr (1, [.ref b0, .int 0, .ref b1, .int 0, .ref b2, .int 0, .ref b3, .int 0]))] H := hP
                                                      have hD : va_D A [(h0, .inr (7, [.ref bo, .ref l1, .ref l2, .int 0, .ref l3, .int 0, .ref l4, .ref l5, .ref l6, .int 0, .int 0, .int 0, .int 0])), (bo, .inr (1, [.ref b0, .int 0, .ref b1, .int 0, .ref b2, .int 0, .ref b3, .int 0]))] := hD
                                                      have hK : va_K (dC, dI) vwCl [] s := hK
                                                      refine lv_if_eq (tgt := 57) hx hb dX7_listPieces_30 (by decide) (fun c_157 => ?_) (fun c_157 => absurd c_157 (fun z => z (by decide)))
                                                      refine lv_iconst (v := 0) hx hb dX7_listPieces_57 (by decide) ?_
                                                      refine lv_istore_n (lv' := [(3, .int 0), (2, .int 25), (0, .ref h0), (1, .int p0)]) hx hb dX7_listPieces_58 rfl hl (by decide) rfl (fun ls hl => ?_)
                                                      refine lv_iload_n hx hb dX7_listPieces_59 rfl (lv_at hl 0 rfl) ?_
                                                      refine lv_if_ne (tgt := 65) hx hb dX7_listPieces_60 (by decide) (fun c_158 => absurd c_158 (fun z => z (by decide))) (fun c_158 => ?_)
                                                      refine lv_iconst (v := 0) hx hb dX7_listPieces_63 (by decide) ?_
                                                      have hP9 := hP.sub (ws' := [(h0, .inr (7, [.ref bo, .ref l1, .ref l2, .int 0, .ref l3, .int 0, .ref l4, .ref l5, .ref l6, .int 0, .int 0, .int 0, .int 0])), (bo, .inr (1, [.ref b0, .int 0, .ref b1, .int 0, .ref b2, .int 0, .ref b3, .int 0]))]) [0, 1] rfl
                                                      have hD9 := hD.sub (ws' := [(h0, .inr (7, [.ref bo, .ref l1, .ref l2, .int 0, .ref l3, .int 0, .ref l4, .ref l5, .ref l6, .int 0, .int 0, .int 0, .int 0])), (bo, .inr (1, [.ref b0, .int 0, .ref b1, .int 0, .ref b2, .int 0, .ref b3, .int 0]))]) [0, 1] (by decide) rfl
                                                      have hK9 := hK.sub (tys' := []) [] rfl
                                                      exact W.zret (v := 0) hx hb hr (by decide) (fun t ht hW => ⟨⟨0, 0, rfl, rfl, ⟨rfl, by rw [ht]; exact hP9, va_K.moved hW.alike hK9, hD9⟩⟩, hS.F ht⟩) hS.2.2 dX7_listPieces_64
                                                  · refine lv_aload_n hx hb dX7_listPieces_22 rfl (lv_at hl 1 rfl) ?_
                                                    refine va_get (D := (dC, dI)) (ci := 7) (v := .ref bo) (C := RX7) (T := TX7) (N := 13) hx hb hts (fun _ hh => (List.mem_cons_of_mem _ (List.mem_append_right _ (List.mem_append_left _ hh)))) hown hK hP 0 rfl rfl 0 (by decide) (hts (.fieldLink RX7 27 "TypingPool$Planner" "book" "LTypingPool$Book;") (List.mem_cons_of_mem _ (List.mem_append_left _ (List.mem_of_getElem? (i := 1) rfl)))) (fun _ h9 => h9) rfl dX7_listPieces_23 ?_
                                                    refine lv_iload_n hx hb dX7_listPieces_26 rfl (lv_at hl 0 rfl) ?_
                                                    have hPc := hP.sub (ws' := [(bo, .inr (1, [.ref b0, .int 0, .ref b1, .int 0, .ref b2, .int 0, .ref b3, .int 0]))]) [1] rfl
                                                    have hDc := hD.sub (ws' := [(bo, .inr (1, [.ref b0, .int 0, .ref b1, .int 0, .ref b2, .int 0, .ref b3, .int 0]))]) [1] (by decide) rfl
                                                    have hKc := hK.sub (tys' := []) [] rfl
                                                    have hFc := va_free (wc := [(bo, .inr (1, [.ref b0, .int 0, .ref b1, .int 0, .ref b2, .int 0, .ref b3, .int 0]))]) hD hS hA [1] rfl
                                                    refine va_calli (va_runV (As := [.int 24]) (rest := []) ⟨hx, hb, hml, hown, hts⟩ (c_hasPiece0 l dC dI ad av H.size bo b0 b1 b2 b3 24 ) (cwV 1 hts (gi_4 (List.mem_cons_of_mem _ (List.mem_append_left _ (List.mem_of_getElem? (i := 2) rfl))) (List.mem_cons_of_mem _ (List.mem_append_left _ (List.mem_of_getElem? (i := 3) rfl))) (List.mem_cons_of_mem _ (List.mem_append_left _ (List.mem_of_getElem? (i := 4) rfl))) (List.mem_cons_of_mem _ (List.mem_append_left _ (List.mem_of_getElem? (i := 5) rfl))) (fun _ hh => (List.mem_cons_of_mem _ (List.mem_append_right _ (List.mem_append_right _ (List.mem_append_left _ hh))))) gd_c_hasPiece0) rfl rfl rfl (by decide +kernel) ⟨Nat.le_of_ble_eq_true rfl, Nat.le_of_ble_eq_true rfl⟩) ⟨pr_blind, va_recv hKc hPc (ci := 1) (q0 := 0) rfl rfl, pr_use hPc hKc hDc hFc hS hM⟩ rfl rfl hl.1 rfl (lv_room (Nat.le_of_ble_eq_true rfl)) dX7_listPieces_27 ⟨Nat.le_of_ble_eq_true rfl, Nat.le_of_ble_eq_true rfl⟩) hS (fun q _ h => hFc q h) hFc (fun r_159 u t H locs ht hvm hw hB hz1 hk1 hS => ?_)
                                                    refine W.widen (k := 0) (n := 0) (Nat.le_of_ble_eq_true rfl) (Nat.le_of_ble_eq_true rfl) ?_
                                                    subst hw
                                                    obtain ⟨hre_160, hP1, hK1, hD1⟩ := hB
                                                    refine lq_top (v := 0) hre_160 ?_
                                                    rw [ht] at hP1
                                                    have hK1 := va_K.moved hvm.symm hK1
                                                    obtain ⟨hP, hD⟩ := va_join (wr := [(h0, .inr (7, [.ref bo, .ref l1, .ref l2, .int 0, .ref l3, .int 0, .ref l4, .ref l5, .ref l6, .int 0, .int 0, .int 0, .int 0]))]) (w1 := [(bo, .inr (1, [.ref b0, .int 0, .ref b1, .int 0, .ref b2, .int 0, .ref b3, .int 0]))]) hP hD [1] [0] rfl rfl (by decide) (by decide) hk1 hFc hP1 hD1
                                                    have hK := (hK.sub (tys' := []) [] rfl).app hK1
                                                    have hP : va_P (dC, dI) vwCl [(h0, .inr (7, [.ref bo, .ref l1, .ref l2, .int 0, .ref l3, .int 0, .ref l4, .ref l5, .ref l6, .int 0, .int 0, .int 0, .int 0])), (bo, .inr (1, [.ref b0, .int 0, .ref b1, .int 0, .ref b2, .int 0, .ref b3, .int 0]))] H := hP
                                                    have hD : va_D A [(h0, .inr (7, [.ref bo, .ref l1, .ref l2, .int 0, .ref l3, .int 0, .ref l4, .ref l5, .ref l6, .int 0, .int 0, .int 0, .int 0])), (bo, .inr (1, [.ref b0, .int 0, .ref b1, .int 0, .ref b2, .int 0, .ref b3, .int 0]))] := hD
                                                    have hK : va_K (dC, dI) vwCl [] s := hK
                                                    refine lv_if_eq (tgt := 57) hx hb dX7_listPieces_30 (by decide) (fun c_161 => ?_) (fun c_161 => absurd c_161 (fun z => z (by decide)))
                                                    refine lv_iconst (v := 0) hx hb dX7_listPieces_57 (by decide) ?_
                                                    refine lv_istore_n (lv' := [(3, .int 0), (2, .int 24), (0, .ref h0), (1, .int p0)]) hx hb dX7_listPieces_58 rfl hl (by decide) rfl (fun ls hl => ?_)
                                                    refine lv_iload_n hx hb dX7_listPieces_59 rfl (lv_at hl 0 rfl) ?_
                                                    refine lv_if_ne (tgt := 65) hx hb dX7_listPieces_60 (by decide) (fun c_162 => absurd c_162 (fun z => z (by decide))) (fun c_162 => ?_)
                                                    refine lv_iconst (v := 0) hx hb dX7_listPieces_63 (by decide) ?_
                                                    have hP9 := hP.sub (ws' := [(h0, .inr (7, [.ref bo, .ref l1, .ref l2, .int 0, .ref l3, .int 0, .ref l4, .ref l5, .ref l6, .int 0, .int 0, .int 0, .int 0])), (bo, .inr (1, [.ref b0, .int 0, .ref b1, .int 0, .ref b2, .int 0, .ref b3, .int 0]))]) [0, 1] rfl
                                                    have hD9 := hD.sub (ws' := [(h0, .inr (7, [.ref bo, .ref l1, .ref l2, .int 0, .ref l3, .int 0, .ref l4, .ref l5, .ref l6, .int 0, .int 0, .int 0, .int 0])), (bo, .inr (1, [.ref b0, .int 0, .ref b1, .int 0, .ref b2, .int 0, .ref b3, .int 0]))]) [0, 1] (by decide) rfl
                                                    have hK9 := hK.sub (tys' := []) [] rfl
                                                    exact W.zret (v := 0) hx hb hr (by decide) (fun t ht hW => ⟨⟨0, 0, rfl, rfl, ⟨rfl, by rw [ht]; exact hP9, va_K.moved hW.alike hK9, hD9⟩⟩, hS.F ht⟩) hS.2.2 dX7_listPieces_64
                                                · refine lv_aload_n hx hb dX7_listPieces_22 rfl (lv_at hl 1 rfl) ?_
                                                  refine va_get (D := (dC, dI)) (ci := 7) (v := .ref bo) (C := RX7) (T := TX7) (N := 13) hx hb hts (fun _ hh => (List.mem_cons_of_mem _ (List.mem_append_right _ (List.mem_append_left _ hh)))) hown hK hP 0 rfl rfl 0 (by decide) (hts (.fieldLink RX7 27 "TypingPool$Planner" "book" "LTypingPool$Book;") (List.mem_cons_of_mem _ (List.mem_append_left _ (List.mem_of_getElem? (i := 1) rfl)))) (fun _ h9 => h9) rfl dX7_listPieces_23 ?_
                                                  refine lv_iload_n hx hb dX7_listPieces_26 rfl (lv_at hl 0 rfl) ?_
                                                  have hPc := hP.sub (ws' := [(bo, .inr (1, [.ref b0, .int 0, .ref b1, .int 0, .ref b2, .int 0, .ref b3, .int 0]))]) [1] rfl
                                                  have hDc := hD.sub (ws' := [(bo, .inr (1, [.ref b0, .int 0, .ref b1, .int 0, .ref b2, .int 0, .ref b3, .int 0]))]) [1] (by decide) rfl
                                                  have hKc := hK.sub (tys' := []) [] rfl
                                                  have hFc := va_free (wc := [(bo, .inr (1, [.ref b0, .int 0, .ref b1, .int 0, .ref b2, .int 0, .ref b3, .int 0]))]) hD hS hA [1] rfl
                                                  refine va_calli (va_runV (As := [.int 23]) (rest := []) ⟨hx, hb, hml, hown, hts⟩ (c_hasPiece0 l dC dI ad av H.size bo b0 b1 b2 b3 23 ) (cwV 1 hts (gi_4 (List.mem_cons_of_mem _ (List.mem_append_left _ (List.mem_of_getElem? (i := 2) rfl))) (List.mem_cons_of_mem _ (List.mem_append_left _ (List.mem_of_getElem? (i := 3) rfl))) (List.mem_cons_of_mem _ (List.mem_append_left _ (List.mem_of_getElem? (i := 4) rfl))) (List.mem_cons_of_mem _ (List.mem_append_left _ (List.mem_of_getElem? (i := 5) rfl))) (fun _ hh => (List.mem_cons_of_mem _ (List.mem_append_right _ (List.mem_append_right _ (List.mem_append_left _ hh))))) gd_c_hasPiece0) rfl rfl rfl (by decide +kernel) ⟨Nat.le_of_ble_eq_true rfl, Nat.le_of_ble_eq_true rfl⟩) ⟨pr_blind, va_recv hKc hPc (ci := 1) (q0 := 0) rfl rfl, pr_use hPc hKc hDc hFc hS hM⟩ rfl rfl hl.1 rfl (lv_room (Nat.le_of_ble_eq_true rfl)) dX7_listPieces_27 ⟨Nat.le_of_ble_eq_true rfl, Nat.le_of_ble_eq_true rfl⟩) hS (fun q _ h => hFc q h) hFc (fun r_163 u t H locs ht hvm hw hB hz1 hk1 hS => ?_)
                                                  refine W.widen (k := 0) (n := 0) (Nat.le_of_ble_eq_true rfl) (Nat.le_of_ble_eq_true rfl) ?_
                                                  subst hw
                                                  obtain ⟨hre_164, hP1, hK1, hD1⟩ := hB
                                                  refine lq_top (v := 0) hre_164 ?_
                                                  rw [ht] at hP1
                                                  have hK1 := va_K.moved hvm.symm hK1
                                                  obtain ⟨hP, hD⟩ := va_join (wr := [(h0, .inr (7, [.ref bo, .ref l1, .ref l2, .int 0, .ref l3, .int 0, .ref l4, .ref l5, .ref l6, .int 0, .int 0, .int 0, .int 0]))]) (w1 := [(bo, .inr (1, [.ref b0, .int 0, .ref b1, .int 0, .ref b2, .int 0, .ref b3, .int 0]))]) hP hD [1] [0] rfl rfl (by decide) (by decide) hk1 hFc hP1 hD1
                                                  have hK := (hK.sub (tys' := []) [] rfl).app hK1
                                                  have hP : va_P (dC, dI) vwCl [(h0, .inr (7, [.ref bo, .ref l1, .ref l2, .int 0, .ref l3, .int 0, .ref l4, .ref l5, .ref l6, .int 0, .int 0, .int 0, .int 0])), (bo, .inr (1, [.ref b0, .int 0, .ref b1, .int 0, .ref b2, .int 0, .ref b3, .int 0]))] H := hP
                                                  have hD : va_D A [(h0, .inr (7, [.ref bo, .ref l1, .ref l2, .int 0, .ref l3, .int 0, .ref l4, .ref l5, .ref l6, .int 0, .int 0, .int 0, .int 0])), (bo, .inr (1, [.ref b0, .int 0, .ref b1, .int 0, .ref b2, .int 0, .ref b3, .int 0]))] := hD
                                                  have hK : va_K (dC, dI) vwCl [] s := hK
                                                  refine lv_if_eq (tgt := 57) hx hb dX7_listPieces_30 (by decide) (fun c_165 => ?_) (fun c_165 => absurd c_165 (fun z => z (by decide)))
                                                  refine lv_iconst (v := 0) hx hb dX7_listPieces_57 (by decide) ?_
                                                  refine lv_istore_n (lv' := [(3, .int 0), (2, .int 23), (0, .ref h0), (1, .int p0)]) hx hb dX7_listPieces_58 rfl hl (by decide) rfl (fun ls hl => ?_)
                                                  refine lv_iload_n hx hb dX7_listPieces_59 rfl (lv_at hl 0 rfl) ?_
                                                  refine lv_if_ne (tgt := 65) hx hb dX7_listPieces_60 (by decide) (fun c_166 => absurd c_166 (fun z => z (by decide))) (fun c_166 => ?_)
                                                  refine lv_iconst (v := 0) hx hb dX7_listPieces_63 (by decide) ?_
                                                  have hP9 := hP.sub (ws' := [(h0, .inr (7, [.ref bo, .ref l1, .ref l2, .int 0, .ref l3, .int 0, .ref l4, .ref l5, .ref l6, .int 0, .int 0, .int 0, .int 0])), (bo, .inr (1, [.ref b0, .int 0, .ref b1, .int 0, .ref b2, .int 0, .ref b3, .int 0]))]) [0, 1] rfl
                                                  have hD9 := hD.sub (ws' := [(h0, .inr (7, [.ref bo, .ref l1, .ref l2, .int 0, .ref l3, .int 0, .ref l4, .ref l5, .ref l6, .int 0, .int 0, .int 0, .int 0])), (bo, .inr (1, [.ref b0, .int 0, .ref b1, .int 0, .ref b2, .int 0, .ref b3, .int 0]))]) [0, 1] (by decide) rfl
                                                  have hK9 := hK.sub (tys' := []) [] rfl
                                                  exact W.zret (v := 0) hx hb hr (by decide) (fun t ht hW => ⟨⟨0, 0, rfl, rfl, ⟨rfl, by rw [ht]; exact hP9, va_K.moved hW.alike hK9, hD9⟩⟩, hS.F ht⟩) hS.2.2 dX7_listPieces_64
                                              · refine lv_aload_n hx hb dX7_listPieces_22 rfl (lv_at hl 1 rfl) ?_
                                                refine va_get (D := (dC, dI)) (ci := 7) (v := .ref bo) (C := RX7) (T := TX7) (N := 13) hx hb hts (fun _ hh => (List.mem_cons_of_mem _ (List.mem_append_right _ (List.mem_append_left _ hh)))) hown hK hP 0 rfl rfl 0 (by decide) (hts (.fieldLink RX7 27 "TypingPool$Planner" "book" "LTypingPool$Book;") (List.mem_cons_of_mem _ (List.mem_append_left _ (List.mem_of_getElem? (i := 1) rfl)))) (fun _ h9 => h9) rfl dX7_listPieces_23 ?_
                                                refine lv_iload_n hx hb dX7_listPieces_26 rfl (lv_at hl 0 rfl) ?_
                                                have hPc := hP.sub (ws' := [(bo, .inr (1, [.ref b0, .int 0, .ref b1, .int 0, .ref b2, .int 0, .ref b3, .int 0]))]) [1] rfl
                                                have hDc := hD.sub (ws' := [(bo, .inr (1, [.ref b0, .int 0, .ref b1, .int 0, .ref b2, .int 0, .ref b3, .int 0]))]) [1] (by decide) rfl
                                                have hKc := hK.sub (tys' := []) [] rfl
                                                have hFc := va_free (wc := [(bo, .inr (1, [.ref b0, .int 0, .ref b1, .int 0, .ref b2, .int 0, .ref b3, .int 0]))]) hD hS hA [1] rfl
                                                refine va_calli (va_runV (As := [.int 22]) (rest := []) ⟨hx, hb, hml, hown, hts⟩ (c_hasPiece0 l dC dI ad av H.size bo b0 b1 b2 b3 22 ) (cwV 1 hts (gi_4 (List.mem_cons_of_mem _ (List.mem_append_left _ (List.mem_of_getElem? (i := 2) rfl))) (List.mem_cons_of_mem _ (List.mem_append_left _ (List.mem_of_getElem? (i := 3) rfl))) (List.mem_cons_of_mem _ (List.mem_append_left _ (List.mem_of_getElem? (i := 4) rfl))) (List.mem_cons_of_mem _ (List.mem_append_left _ (List.mem_of_getElem? (i := 5) rfl))) (fun _ hh => (List.mem_cons_of_mem _ (List.mem_append_right _ (List.mem_append_right _ (List.mem_append_left _ hh))))) gd_c_hasPiece0) rfl rfl rfl (by decide +kernel) ⟨Nat.le_of_ble_eq_true rfl, Nat.le_of_ble_eq_true rfl⟩) ⟨pr_blind, va_recv hKc hPc (ci := 1) (q0 := 0) rfl rfl, pr_use hPc hKc hDc hFc hS hM⟩ rfl rfl hl.1 rfl (lv_room (Nat.le_of_ble_eq_true rfl)) dX7_listPieces_27 ⟨Nat.le_of_ble_eq_true rfl, Nat.le_of_ble_eq_true rfl⟩) hS (fun q _ h => hFc q h) hFc (fun r_167 u t H locs ht hvm hw hB hz1 hk1 hS => ?_)
                                                refine W.widen (k := 0) (n := 0) (Nat.le_of_ble_eq_true rfl) (Nat.le_of_ble_eq_true rfl) ?_
                                                subst hw
                                                obtain ⟨hre_168, hP1, hK1, hD1⟩ := hB
                                                refine lq_top (v := 0) hre_168 ?_
                                                rw [ht] at hP1
                                                have hK1 := va_K.moved hvm.symm hK1
                                                obtain ⟨hP, hD⟩ := va_join (wr := [(h0, .inr (7, [.ref bo, .ref l1, .ref l2, .int 0, .ref l3, .int 0, .ref l4, .ref l5, .ref l6, .int 0, .int 0, .int 0, .int 0]))]) (w1 := [(bo, .inr (1, [.ref b0, .int 0, .ref b1, .int 0, .ref b2, .int 0, .ref b3, .int 0]))]) hP hD [1] [0] rfl rfl (by decide) (by decide) hk1 hFc hP1 hD1
                                                have hK := (hK.sub (tys' := []) [] rfl).app hK1
                                                have hP : va_P (dC, dI) vwCl [(h0, .inr (7, [.ref bo, .ref l1, .ref l2, .int 0, .ref l3, .int 0, .ref l4, .ref l5, .ref l6, .int 0, .int 0, .int 0, .int 0])), (bo, .inr (1, [.ref b0, .int 0, .ref b1, .int 0, .ref b2, .int 0, .ref b3, .int 0]))] H := hP
                                                have hD : va_D A [(h0, .inr (7, [.ref bo, .ref l1, .ref l2, .int 0, .ref l3, .int 0, .ref l4, .ref l5, .ref l6, .int 0, .int 0, .int 0, .int 0])), (bo, .inr (1, [.ref b0, .int 0, .ref b1, .int 0, .ref b2, .int 0, .ref b3, .int 0]))] := hD
                                                have hK : va_K (dC, dI) vwCl [] s := hK
                                                refine lv_if_eq (tgt := 57) hx hb dX7_listPieces_30 (by decide) (fun c_169 => ?_) (fun c_169 => absurd c_169 (fun z => z (by decide)))
                                                refine lv_iconst (v := 0) hx hb dX7_listPieces_57 (by decide) ?_
                                                refine lv_istore_n (lv' := [(3, .int 0), (2, .int 22), (0, .ref h0), (1, .int p0)]) hx hb dX7_listPieces_58 rfl hl (by decide) rfl (fun ls hl => ?_)
                                                refine lv_iload_n hx hb dX7_listPieces_59 rfl (lv_at hl 0 rfl) ?_
                                                refine lv_if_ne (tgt := 65) hx hb dX7_listPieces_60 (by decide) (fun c_170 => absurd c_170 (fun z => z (by decide))) (fun c_170 => ?_)
                                                refine lv_iconst (v := 0) hx hb dX7_listPieces_63 (by decide) ?_
                                                have hP9 := hP.sub (ws' := [(h0, .inr (7, [.ref bo, .ref l1, .ref l2, .int 0, .ref l3, .int 0, .ref l4, .ref l5, .ref l6, .int 0, .int 0, .int 0, .int 0])), (bo, .inr (1, [.ref b0, .int 0, .ref b1, .int 0, .ref b2, .int 0, .ref b3, .int 0]))]) [0, 1] rfl
                                                have hD9 := hD.sub (ws' := [(h0, .inr (7, [.ref bo, .ref l1, .ref l2, .int 0, .ref l3, .int 0, .ref l4, .ref l5, .ref l6, .int 0, .int 0, .int 0, .int 0])), (bo, .inr (1, [.ref b0, .int 0, .ref b1, .int 0, .ref b2, .int 0, .ref b3, .int 0]))]) [0, 1] (by decide) rfl
                                                have hK9 := hK.sub (tys' := []) [] rfl
                                                exact W.zret (v := 0) hx hb hr (by decide) (fun t ht hW => ⟨⟨0, 0, rfl, rfl, ⟨rfl, by rw [ht]; exact hP9, va_K.moved hW.alike hK9, hD9⟩⟩, hS.F ht⟩) hS.2.2 dX7_listPieces_64
                                            · refine lv_aload_n hx hb dX7_listPieces_22 rfl (lv_at hl 1 rfl) ?_
                                              refine va_get (D := (dC, dI)) (ci := 7) (v := .ref bo) (C := RX7) (T := TX7) (N := 13) hx hb hts (fun _ hh => (List.mem_cons_of_mem _ (List.mem_append_right _ (List.mem_append_left _ hh)))) hown hK hP 0 rfl rfl 0 (by decide) (hts (.fieldLink RX7 27 "TypingPool$Planner" "book" "LTypingPool$Book;") (List.mem_cons_of_mem _ (List.mem_append_left _ (List.mem_of_getElem? (i := 1) rfl)))) (fun _ h9 => h9) rfl dX7_listPieces_23 ?_
                                              refine lv_iload_n hx hb dX7_listPieces_26 rfl (lv_at hl 0 rfl) ?_
                                              have hPc := hP.sub (ws' := [(bo, .inr (1, [.ref b0, .int 0, .ref b1, .int 0, .ref b2, .int 0, .ref b3, .int 0]))]) [1] rfl
                                              have hDc := hD.sub (ws' := [(bo, .inr (1, [.ref b0, .int 0, .ref b1, .int 0, .ref b2, .int 0, .ref b3, .int 0]))]) [1] (by decide) rfl
                                              have hKc := hK.sub (tys' := []) [] rfl
                                              have hFc := va_free (wc := [(bo, .inr (1, [.ref b0, .int 0, .ref b1, .int 0, .ref b2, .int 0, .ref b3, .int 0]))]) hD hS hA [1] rfl
                                              refine va_calli (va_runV (As := [.int 21]) (rest := []) ⟨hx, hb, hml, hown, hts⟩ (c_hasPiece0 l dC dI ad av H.size bo b0 b1 b2 b3 21 ) (cwV 1 hts (gi_4 (List.mem_cons_of_mem _ (List.mem_append_left _ (List.mem_of_getElem? (i := 2) rfl))) (List.mem_cons_of_mem _ (List.mem_append_left _ (List.mem_of_getElem? (i := 3) rfl))) (List.mem_cons_of_mem _ (List.mem_append_left _ (List.mem_of_getElem? (i := 4) rfl))) (List.mem_cons_of_mem _ (List.mem_append_left _ (List.mem_of_getElem? (i := 5) rfl))) (fun _ hh => (List.mem_cons_of_mem _ (List.mem_append_right _ (List.mem_append_right _ (List.mem_append_left _ hh))))) gd_c_hasPiece0) rfl rfl rfl (by decide +kernel) ⟨Nat.le_of_ble_eq_true rfl, Nat.le_of_ble_eq_true rfl⟩) ⟨pr_blind, va_recv hKc hPc (ci := 1) (q0 := 0) rfl rfl, pr_use hPc hKc hDc hFc hS hM⟩ rfl rfl hl.1 rfl (lv_room (Nat.le_of_ble_eq_true rfl)) dX7_listPieces_27 ⟨Nat.le_of_ble_eq_true rfl, Nat.le_of_ble_eq_true rfl⟩) hS (fun q _ h => hFc q h) hFc (fun r_171 u t H locs ht hvm hw hB hz1 hk1 hS => ?_)
                                              refine W.widen (k := 0) (n := 0) (Nat.le_of_ble_eq_true rfl) (Nat.le_of_ble_eq_true rfl) ?_
                                              subst hw
                                              obtain ⟨hre_172, hP1, hK1, hD1⟩ := hB
                                              refine lq_top (v := 0) hre_172 ?_
                                              rw [ht] at hP1
                                              have hK1 := va_K.moved hvm.symm hK1
                                              obtain ⟨hP, hD⟩ := va_join (wr := [(h0, .inr (7, [.ref bo, .ref l1, .ref l2, .int 0, .ref l3, .int 0, .ref l4, .ref l5, .ref l6, .int 0, .int 0, .int 0, .int 0]))]) (w1 := [(bo, .inr (1, [.ref b0, .int 0, .ref b1, .int 0, .ref b2, .int 0, .ref b3, .int 0]))]) hP hD [1] [0] rfl rfl (by decide) (by decide) hk1 hFc hP1 hD1
                                              have hK := (hK.sub (tys' := []) [] rfl).app hK1
                                              have hP : va_P (dC, dI) vwCl [(h0, .inr (7, [.ref bo, .ref l1, .ref l2, .int 0, .ref l3, .int 0, .ref l4, .ref l5, .ref l6, .int 0, .int 0, .int 0, .int 0])), (bo, .inr (1, [.ref b0, .int 0, .ref b1, .int 0, .ref b2, .int 0, .ref b3, .int 0]))] H := hP
                                              have hD : va_D A [(h0, .inr (7, [.ref bo, .ref l1, .ref l2, .int 0, .ref l3, .int 0, .ref l4, .ref l5, .ref l6, .int 0, .int 0, .int 0, .int 0])), (bo, .inr (1, [.ref b0, .int 0, .ref b1, .int 0, .ref b2, .int 0, .ref b3, .int 0]))] := hD
                                              have hK : va_K (dC, dI) vwCl [] s := hK
                                              refine lv_if_eq (tgt := 57) hx hb dX7_listPieces_30 (by decide) (fun c_173 => ?_) (fun c_173 => absurd c_173 (fun z => z (by decide)))
                                              refine lv_iconst (v := 0) hx hb dX7_listPieces_57 (by decide) ?_
                                              refine lv_istore_n (lv' := [(3, .int 0), (2, .int 21), (0, .ref h0), (1, .int p0)]) hx hb dX7_listPieces_58 rfl hl (by decide) rfl (fun ls hl => ?_)
                                              refine lv_iload_n hx hb dX7_listPieces_59 rfl (lv_at hl 0 rfl) ?_
                                              refine lv_if_ne (tgt := 65) hx hb dX7_listPieces_60 (by decide) (fun c_174 => absurd c_174 (fun z => z (by decide))) (fun c_174 => ?_)
                                              refine lv_iconst (v := 0) hx hb dX7_listPieces_63 (by decide) ?_
                                              have hP9 := hP.sub (ws' := [(h0, .inr (7, [.ref bo, .ref l1, .ref l2, .int 0, .ref l3, .int 0, .ref l4, .ref l5, .ref l6, .int 0, .int 0, .int 0, .int 0])), (bo, .inr (1, [.ref b0, .int 0, .ref b1, .int 0, .ref b2, .int 0, .ref b3, .int 0]))]) [0, 1] rfl
                                              have hD9 := hD.sub (ws' := [(h0, .inr (7, [.ref bo, .ref l1, .ref l2, .int 0, .ref l3, .int 0, .ref l4, .ref l5, .ref l6, .int 0, .int 0, .int 0, .int 0])), (bo, .inr (1, [.ref b0, .int 0, .ref b1, .int 0, .ref b2, .int 0, .ref b3, .int 0]))]) [0, 1] (by decide) rfl
                                              have hK9 := hK.sub (tys' := []) [] rfl
                                              exact W.zret (v := 0) hx hb hr (by decide) (fun t ht hW => ⟨⟨0, 0, rfl, rfl, ⟨rfl, by rw [ht]; exact hP9, va_K.moved hW.alike hK9, hD9⟩⟩, hS.F ht⟩) hS.2.2 dX7_listPieces_64
                                          · refine lv_aload_n hx hb dX7_listPieces_22 rfl (lv_at hl 1 rfl) ?_
                                            refine va_get (D := (dC, dI)) (ci := 7) (v := .ref bo) (C := RX7) (T := TX7) (N := 13) hx hb hts (fun _ hh => (List.mem_cons_of_mem _ (List.mem_append_right _ (List.mem_append_left _ hh)))) hown hK hP 0 rfl rfl 0 (by decide) (hts (.fieldLink RX7 27 "TypingPool$Planner" "book" "LTypingPool$Book;") (List.mem_cons_of_mem _ (List.mem_append_left _ (List.mem_of_getElem? (i := 1) rfl)))) (fun _ h9 => h9) rfl dX7_listPieces_23 ?_
                                            refine lv_iload_n hx hb dX7_listPieces_26 rfl (lv_at hl 0 rfl) ?_
                                            have hPc := hP.sub (ws' := [(bo, .inr (1, [.ref b0, .int 0, .ref b1, .int 0, .ref b2, .int 0, .ref b3, .int 0]))]) [1] rfl
                                            have hDc := hD.sub (ws' := [(bo, .inr (1, [.ref b0, .int 0, .ref b1, .int 0, .ref b2, .int 0, .ref b3, .int 0]))]) [1] (by decide) rfl
                                            have hKc := hK.sub (tys' := []) [] rfl
                                            have hFc := va_free (wc := [(bo, .inr (1, [.ref b0, .int 0, .ref b1, .int 0, .ref b2, .int 0, .ref b3, .int 0]))]) hD hS hA [1] rfl
                                            refine va_calli (va_runV (As := [.int 20]) (rest := []) ⟨hx, hb, hml, hown, hts⟩ (c_hasPiece0 l dC dI ad av H.size bo b0 b1 b2 b3 20 ) (cwV 1 hts (gi_4 (List.mem_cons_of_mem _ (List.mem_append_left _ (List.mem_of_getElem? (i := 2) rfl))) (List.mem_cons_of_mem _ (List.mem_append_left _ (List.mem_of_getElem? (i := 3) rfl))) (List.mem_cons_of_mem _ (List.mem_append_left _ (List.mem_of_getElem? (i := 4) rfl))) (List.mem_cons_of_mem _ (List.mem_append_left _ (List.mem_of_getElem? (i := 5) rfl))) (fun _ hh => (List.mem_cons_of_mem _ (List.mem_append_right _ (List.mem_append_right _ (List.mem_append_left _ hh))))) gd_c_hasPiece0) rfl rfl rfl (by decide +kernel) ⟨Nat.le_of_ble_eq_true rfl, Nat.le_of_ble_eq_true rfl⟩) ⟨pr_blind, va_recv hKc hPc (ci := 1) (q0 := 0) rfl rfl, pr_use hPc hKc hDc hFc hS hM⟩ rfl rfl hl.1 rfl (lv_room (Nat.le_of_ble_eq_true rfl)) dX7_listPieces_27 ⟨Nat.le_of_ble_eq_true rfl, Nat.le_of_ble_eq_true rfl⟩) hS (fun q _ h => hFc q h) hFc (fun r_175 u t H locs ht hvm hw hB hz1 hk1 hS => ?_)
                                            refine W.widen (k := 0) (n := 0) (Nat.le_of_ble_eq_true rfl) (Nat.le_of_ble_eq_true rfl) ?_
                                            subst hw
                                            obtain ⟨hre_176, hP1, hK1, hD1⟩ := hB
                                            refine lq_top (v := 0) hre_176 ?_
                                            rw [ht] at hP1
                                            have hK1 := va_K.moved hvm.symm hK1
                                            obtain ⟨hP, hD⟩ := va_join (wr := [(h0, .inr (7, [.ref bo, .ref l1, .ref l2, .int 0, .ref l3, .int 0, .ref l4, .ref l5, .ref l6, .int 0, .int 0, .int 0, .int 0]))]) (w1 := [(bo, .inr (1, [.ref b0, .int 0, .ref b1, .int 0, .ref b2, .int 0, .ref b3, .int 0]))]) hP hD [1] [0] rfl rfl (by decide) (by decide) hk1 hFc hP1 hD1
                                            have hK := (hK.sub (tys' := []) [] rfl).app hK1
                                            have hP : va_P (dC, dI) vwCl [(h0, .inr (7, [.ref bo, .ref l1, .ref l2, .int 0, .ref l3, .int 0, .ref l4, .ref l5, .ref l6, .int 0, .int 0, .int 0, .int 0])), (bo, .inr (1, [.ref b0, .int 0, .ref b1, .int 0, .ref b2, .int 0, .ref b3, .int 0]))] H := hP
                                            have hD : va_D A [(h0, .inr (7, [.ref bo, .ref l1, .ref l2, .int 0, .ref l3, .int 0, .ref l4, .ref l5, .ref l6, .int 0, .int 0, .int 0, .int 0])), (bo, .inr (1, [.ref b0, .int 0, .ref b1, .int 0, .ref b2, .int 0, .ref b3, .int 0]))] := hD
                                            have hK : va_K (dC, dI) vwCl [] s := hK
                                            refine lv_if_eq (tgt := 57) hx hb dX7_listPieces_30 (by decide) (fun c_177 => ?_) (fun c_177 => absurd c_177 (fun z => z (by decide)))
                                            refine lv_iconst (v := 0) hx hb dX7_listPieces_57 (by decide) ?_
                                            refine lv_istore_n (lv' := [(3, .int 0), (2, .int 20), (0, .ref h0), (1, .int p0)]) hx hb dX7_listPieces_58 rfl hl (by decide) rfl (fun ls hl => ?_)
                                            refine lv_iload_n hx hb dX7_listPieces_59 rfl (lv_at hl 0 rfl) ?_
                                            refine lv_if_ne (tgt := 65) hx hb dX7_listPieces_60 (by decide) (fun c_178 => absurd c_178 (fun z => z (by decide))) (fun c_178 => ?_)
                                            refine lv_iconst (v := 0) hx hb dX7_listPieces_63 (by decide) ?_
                                            have hP9 := hP.sub (ws' := [(h0, .inr (7, [.ref bo, .ref l1, .ref l2, .int 0, .ref l3, .int 0, .ref l4, .ref l5, .ref l6, .int 0, .int 0, .int 0, .int 0])), (bo, .inr (1, [.ref b0, .int 0, .ref b1, .int 0, .ref b2, .int 0, .ref b3, .int 0]))]) [0, 1] rfl
                                            have hD9 := hD.sub (ws' := [(h0, .inr (7, [.ref bo, .ref l1, .ref l2, .int 0, .ref l3, .int 0, .ref l4, .ref l5, .ref l6, .int 0, .int 0, .int 0, .int 0])), (bo, .inr (1, [.ref b0, .int 0, .ref b1, .int 0, .ref b2, .int 0, .ref b3, .int 0]))]) [0, 1] (by decide) rfl
                                            have hK9 := hK.sub (tys' := []) [] rfl
                                            exact W.zret (v := 0) hx hb hr (by decide) (fun t ht hW => ⟨⟨0, 0, rfl, rfl, ⟨rfl, by rw [ht]; exact hP9, va_K.moved hW.alike hK9, hD9⟩⟩, hS.F ht⟩) hS.2.2 dX7_listPieces_64
                                        · refine lv_aload_n hx hb dX7_listPieces_22 rfl (lv_at hl 1 rfl) ?_
                                          refine va_get (D := (dC, dI)) (ci := 7) (v := .ref bo) (C := RX7) (T := TX7) (N := 13) hx hb hts (fun _ hh => (List.mem_cons_of_mem _ (List.mem_append_right _ (List.mem_append_left _ hh)))) hown hK hP 0 rfl rfl 0 (by decide) (hts (.fieldLink RX7 27 "TypingPool$Planner" "book" "LTypingPool$Book;") (List.mem_cons_of_mem _ (List.mem_append_left _ (List.mem_of_getElem? (i := 1) rfl)))) (fun _ h9 => h9) rfl dX7_listPieces_23 ?_
                                          refine lv_iload_n hx hb dX7_listPieces_26 rfl (lv_at hl 0 rfl) ?_
                                          have hPc := hP.sub (ws' := [(bo, .inr (1, [.ref b0, .int 0, .ref b1, .int 0, .ref b2, .int 0, .ref b3, .int 0]))]) [1] rfl
                                          have hDc := hD.sub (ws' := [(bo, .inr (1, [.ref b0, .int 0, .ref b1, .int 0, .ref b2, .int 0, .ref b3, .int 0]))]) [1] (by decide) rfl
                                          have hKc := hK.sub (tys' := []) [] rfl
                                          have hFc := va_free (wc := [(bo, .inr (1, [.ref b0, .int 0, .ref b1, .int 0, .ref b2, .int 0, .ref b3, .int 0]))]) hD hS hA [1] rfl
                                          refine va_calli (va_runV (As := [.int 19]) (rest := []) ⟨hx, hb, hml, hown, hts⟩ (c_hasPiece0 l dC dI ad av H.size bo b0 b1 b2 b3 19 ) (cwV 1 hts (gi_4 (List.mem_cons_of_mem _ (List.mem_append_left _ (List.mem_of_getElem? (i := 2) rfl))) (List.mem_cons_of_mem _ (List.mem_append_left _ (List.mem_of_getElem? (i := 3) rfl))) (List.mem_cons_of_mem _ (List.mem_append_left _ (List.mem_of_getElem? (i := 4) rfl))) (List.mem_cons_of_mem _ (List.mem_append_left _ (List.mem_of_getElem? (i := 5) rfl))) (fun _ hh => (List.mem_cons_of_mem _ (List.mem_append_right _ (List.mem_append_right _ (List.mem_append_left _ hh))))) gd_c_hasPiece0) rfl rfl rfl (by decide +kernel) ⟨Nat.le_of_ble_eq_true rfl, Nat.le_of_ble_eq_true rfl⟩) ⟨pr_blind, va_recv hKc hPc (ci := 1) (q0 := 0) rfl rfl, pr_use hPc hKc hDc hFc hS hM⟩ rfl rfl hl.1 rfl (lv_room (Nat.le_of_ble_eq_true rfl)) dX7_listPieces_27 ⟨Nat.le_of_ble_eq_true rfl, Nat.le_of_ble_eq_true rfl⟩) hS (fun q _ h => hFc q h) hFc (fun r_179 u t H locs ht hvm hw hB hz1 hk1 hS => ?_)
                                          refine W.widen (k := 0) (n := 0) (Nat.le_of_ble_eq_true rfl) (Nat.le_of_ble_eq_true rfl) ?_
                                          subst hw
                                          obtain ⟨hre_180, hP1, hK1, hD1⟩ := hB
                                          refine lq_top (v := 0) hre_180 ?_
                                          rw [ht] at hP1
                                          have hK1 := va_K.moved hvm.symm hK1
                                          obtain ⟨hP, hD⟩ := va_join (wr := [(h0, .inr (7, [.ref bo, .ref l1, .ref l2, .int 0, .ref l3, .int 0, .ref l4, .ref l5, .ref l6, .int 0, .int 0, .int 0, .int 0]))]) (w1 := [(bo, .inr (1, [.ref b0, .int 0, .ref b1, .int 0, .ref b2, .int 0, .ref b3, .int 0]))]) hP hD [1] [0] rfl rfl (by decide) (by decide) hk1 hFc hP1 hD1
                                          have hK := (hK.sub (tys' := []) [] rfl).app hK1
                                          have hP : va_P (dC, dI) vwCl [(h0, .inr (7, [.ref bo, .ref l1, .ref l2, .int 0, .ref l3, .int 0, .ref l4, .ref l5, .ref l6, .int 0, .int 0, .int 0, .int 0])), (bo, .inr (1, [.ref b0, .int 0, .ref b1, .int 0, .ref b2, .int 0, .ref b3, .int 0]))] H := hP
                                          have hD : va_D A [(h0, .inr (7, [.ref bo, .ref l1, .ref l2, .int 0, .ref l3, .int 0, .ref l4, .ref l5, .ref l6, .int 0, .int 0, .int 0, .int 0])), (bo, .inr (1, [.ref b0, .int 0, .ref b1, .int 0, .ref b2, .int 0, .ref b3, .int 0]))] := hD
                                          have hK : va_K (dC, dI) vwCl [] s := hK
                                          refine lv_if_eq (tgt := 57) hx hb dX7_listPieces_30 (by decide) (fun c_181 => ?_) (fun c_181 => absurd c_181 (fun z => z (by decide)))
                                          refine lv_iconst (v := 0) hx hb dX7_listPieces_57 (by decide) ?_
                                          refine lv_istore_n (lv' := [(3, .int 0), (2, .int 19), (0, .ref h0), (1, .int p0)]) hx hb dX7_listPieces_58 rfl hl (by decide) rfl (fun ls hl => ?_)
                                          refine lv_iload_n hx hb dX7_listPieces_59 rfl (lv_at hl 0 rfl) ?_
                                          refine lv_if_ne (tgt := 65) hx hb dX7_listPieces_60 (by decide) (fun c_182 => absurd c_182 (fun z => z (by decide))) (fun c_182 => ?_)
                                          refine lv_iconst (v := 0) hx hb dX7_listPieces_63 (by decide) ?_
                                          have hP9 := hP.sub (ws' := [(h0, .inr (7, [.ref bo, .ref l1, .ref l2, .int 0, .ref l3, .int 0, .ref l4, .ref l5, .ref l6, .int 0, .int 0, .int 0, .int 0])), (bo, .inr (1, [.ref b0, .int 0, .ref b1, .int 0, .ref b2, .int 0, .ref b3, .int 0]))]) [0, 1] rfl
                                          have hD9 := hD.sub (ws' := [(h0, .inr (7, [.ref bo, .ref l1, .ref l2, .int 0, .ref l3, .int 0, .ref l4, .ref l5, .ref l6, .int 0, .int 0, .int 0, .int 0])), (bo, .inr (1, [.ref b0, .int 0, .ref b1, .int 0, .ref b2, .int 0, .ref b3, .int 0]))]) [0, 1] (by decide) rfl
                                          have hK9 := hK.sub (tys' := []) [] rfl
                                          exact W.zret (v := 0) hx hb hr (by decide) (fun t ht hW => ⟨⟨0, 0, rfl, rfl, ⟨rfl, by rw [ht]; exact hP9, va_K.moved hW.alike hK9, hD9⟩⟩, hS.F ht⟩) hS.2.2 dX7_listPieces_64
                                      · refine lv_aload_n hx hb dX7_listPieces_22 rfl (lv_at hl 1 rfl) ?_
                                        refine va_get (D := (dC, dI)) (ci := 7) (v := .ref bo) (C := RX7) (T := TX7) (N := 13) hx hb hts (fun _ hh => (List.mem_cons_of_mem _ (List.mem_append_right _ (List.mem_append_left _ hh)))) hown hK hP 0 rfl rfl 0 (by decide) (hts (.fieldLink RX7 27 "TypingPool$Planner" "book" "LTypingPool$Book;") (List.mem_cons_of_mem _ (List.mem_append_left _ (List.mem_of_getElem? (i := 1) rfl)))) (fun _ h9 => h9) rfl dX7_listPieces_23 ?_
                                        refine lv_iload_n hx hb dX7_listPieces_26 rfl (lv_at hl 0 rfl) ?_
                                        have hPc := hP.sub (ws' := [(bo, .inr (1, [.ref b0, .int 0, .ref b1, .int 0, .ref b2, .int 0, .ref b3, .int 0]))]) [1] rfl
                                        have hDc := hD.sub (ws' := [(bo, .inr (1, [.ref b0, .int 0, .ref b1, .int 0, .ref b2, .int 0, .ref b3, .int 0]))]) [1] (by decide) rfl
                                        have hKc := hK.sub (tys' := []) [] rfl
                                        have hFc := va_free (wc := [(bo, .inr (1, [.ref b0, .int 0, .ref b1, .int 0, .ref b2, .int 0, .ref b3, .int 0]))]) hD hS hA [1] rfl
                                        refine va_calli (va_runV (As := [.int 18]) (rest := []) ⟨hx, hb, hml, hown, hts⟩ (c_hasPiece0 l dC dI ad av H.size bo b0 b1 b2 b3 18 ) (cwV 1 hts (gi_4 (List.mem_cons_of_mem _ (List.mem_append_left _ (List.mem_of_getElem? (i := 2) rfl))) (List.mem_cons_of_mem _ (List.mem_append_left _ (List.mem_of_getElem? (i := 3) rfl))) (List.mem_cons_of_mem _ (List.mem_append_left _ (List.mem_of_getElem? (i := 4) rfl))) (List.mem_cons_of_mem _ (List.mem_append_left _ (List.mem_of_getElem? (i := 5) rfl))) (fun _ hh => (List.mem_cons_of_mem _ (List.mem_append_right _ (List.mem_append_right _ (List.mem_append_left _ hh))))) gd_c_hasPiece0) rfl rfl rfl (by decide +kernel) ⟨Nat.le_of_ble_eq_true rfl, Nat.le_of_ble_eq_true rfl⟩) ⟨pr_blind, va_recv hKc hPc (ci := 1) (q0 := 0) rfl rfl, pr_use hPc hKc hDc hFc hS hM⟩ rfl rfl hl.1 rfl (lv_room (Nat.le_of_ble_eq_true rfl)) dX7_listPieces_27 ⟨Nat.le_of_ble_eq_true rfl, Nat.le_of_ble_eq_true rfl⟩) hS (fun q _ h => hFc q h) hFc (fun r_183 u t H locs ht hvm hw hB hz1 hk1 hS => ?_)
                                        refine W.widen (k := 0) (n := 0) (Nat.le_of_ble_eq_true rfl) (Nat.le_of_ble_eq_true rfl) ?_
                                        subst hw
                                        obtain ⟨hre_184, hP1, hK1, hD1⟩ := hB
                                        refine lq_top (v := 0) hre_184 ?_
                                        rw [ht] at hP1
                                        have hK1 := va_K.moved hvm.symm hK1
                                        obtain ⟨hP, hD⟩ := va_join (wr := [(h0, .inr (7, [.ref bo, .ref l1, .ref l2, .int 0, .ref l3, .int 0, .ref l4, .ref l5, .ref l6, .int 0, .int 0, .int 0, .int 0]))]) (w1 := [(bo, .inr (1, [.ref b0, .int 0, .ref b1, .int 0, .ref b2, .int 0, .ref b3, .int 0]))]) hP hD [1] [0] rfl rfl (by decide) (by decide) hk1 hFc hP1 hD1
                                        have hK := (hK.sub (tys' := []) [] rfl).app hK1
                                        have hP : va_P (dC, dI) vwCl [(h0, .inr (7, [.ref bo, .ref l1, .ref l2, .int 0, .ref l3, .int 0, .ref l4, .ref l5, .ref l6, .int 0, .int 0, .int 0, .int 0])), (bo, .inr (1, [.ref b0, .int 0, .ref b1, .int 0, .ref b2, .int 0, .ref b3, .int 0]))] H := hP
                                        have hD : va_D A [(h0, .inr (7, [.ref bo, .ref l1, .ref l2, .int 0, .ref l3, .int 0, .ref l4, .ref l5, .ref l6, .int 0, .int 0, .int 0, .int 0])), (bo, .inr (1, [.ref b0, .int 0, .ref b1, .int 0, .ref b2, .int 0, .ref b3, .int 0]))] := hD
                                        have hK : va_K (dC, dI) vwCl [] s := hK
                                        refine lv_if_eq (tgt := 57) hx hb dX7_listPieces_30 (by decide) (fun c_185 => ?_) (fun c_185 => absurd c_185 (fun z => z (by decide)))
                                        refine lv_iconst (v := 0) hx hb dX7_listPieces_57 (by decide) ?_
                                        refine lv_istore_n (lv' := [(3, .int 0), (2, .int 18), (0, .ref h0), (1, .int p0)]) hx hb dX7_listPieces_58 rfl hl (by decide) rfl (fun ls hl => ?_)
                                        refine lv_iload_n hx hb dX7_listPieces_59 rfl (lv_at hl 0 rfl) ?_
                                        refine lv_if_ne (tgt := 65) hx hb dX7_listPieces_60 (by decide) (fun c_186 => absurd c_186 (fun z => z (by decide))) (fun c_186 => ?_)
                                        refine lv_iconst (v := 0) hx hb dX7_listPieces_63 (by decide) ?_
                                        have hP9 := hP.sub (ws' := [(h0, .inr (7, [.ref bo, .ref l1, .ref l2, .int 0, .ref l3, .int 0, .ref l4, .ref l5, .ref l6, .int 0, .int 0, .int 0, .int 0])), (bo, .inr (1, [.ref b0, .int 0, .ref b1, .int 0, .ref b2, .int 0, .ref b3, .int 0]))]) [0, 1] rfl
                                        have hD9 := hD.sub (ws' := [(h0, .inr (7, [.ref bo, .ref l1, .ref l2, .int 0, .ref l3, .int 0, .ref l4, .ref l5, .ref l6, .int 0, .int 0, .int 0, .int 0])), (bo, .inr (1, [.ref b0, .int 0, .ref b1, .int 0, .ref b2, .int 0, .ref b3, .int 0]))]) [0, 1] (by decide) rfl
                                        have hK9 := hK.sub (tys' := []) [] rfl
                                        exact W.zret (v := 0) hx hb hr (by decide) (fun t ht hW => ⟨⟨0, 0, rfl, rfl, ⟨rfl, by rw [ht]; exact hP9, va_K.moved hW.alike hK9, hD9⟩⟩, hS.F ht⟩) hS.2.2 dX7_listPieces_64
                                    · refine lv_aload_n hx hb dX7_listPieces_22 rfl (lv_at hl 1 rfl) ?_
                                      refine va_get (D := (dC, dI)) (ci := 7) (v := .ref bo) (C := RX7) (T := TX7) (N := 13) hx hb hts (fun _ hh => (List.mem_cons_of_mem _ (List.mem_append_right _ (List.mem_append_left _ hh)))) hown hK hP 0 rfl rfl 0 (by decide) (hts (.fieldLink RX7 27 "TypingPool$Planner" "book" "LTypingPool$Book;") (List.mem_cons_of_mem _ (List.mem_append_left _ (List.mem_of_getElem? (i := 1) rfl)))) (fun _ h9 => h9) rfl dX7_listPieces_23 ?_
                                      refine lv_iload_n hx hb dX7_listPieces_26 rfl (lv_at hl 0 rfl) ?_
                                      have hPc := hP.sub (ws' := [(bo, .inr (1, [.ref b0, .int 0, .ref b1, .int 0, .ref b2, .int 0, .ref b3, .int 0]))]) [1] rfl
                                      have hDc := hD.sub (ws' := [(bo, .inr (1, [.ref b0, .int 0, .ref b1, .int 0, .ref b2, .int 0, .ref b3, .int 0]))]) [1] (by decide) rfl
                                      have hKc := hK.sub (tys' := []) [] rfl
                                      have hFc := va_free (wc := [(bo, .inr (1, [.ref b0, .int 0, .ref b1, .int 0, .ref b2, .int 0, .ref b3, .int 0]))]) hD hS hA [1] rfl
                                      refine va_calli (va_runV (As := [.int 17]) (rest := []) ⟨hx, hb, hml, hown, hts⟩ (c_hasPiece0 l dC dI ad av H.size bo b0 b1 b2 b3 17 ) (cwV 1 hts (gi_4 (List.mem_cons_of_mem _ (List.mem_append_left _ (List.mem_of_getElem? (i := 2) rfl))) (List.mem_cons_of_mem _ (List.mem_append_left _ (List.mem_of_getElem? (i := 3) rfl))) (List.mem_cons_of_mem _ (List.mem_append_left _ (List.mem_of_getElem? (i := 4) rfl))) (List.mem_cons_of_mem _ (List.mem_append_left _ (List.mem_of_getElem? (i := 5) rfl))) (fun _ hh => (List.mem_cons_of_mem _ (List.mem_append_right _ (List.mem_append_right _ (List.mem_append_left _ hh))))) gd_c_hasPiece0) rfl rfl rfl (by decide +kernel) ⟨Nat.le_of_ble_eq_true rfl, Nat.le_of_ble_eq_true rfl⟩) ⟨pr_blind, va_recv hKc hPc (ci := 1) (q0 := 0) rfl rfl, pr_use hPc hKc hDc hFc hS hM⟩ rfl rfl hl.1 rfl (lv_room (Nat.le_of_ble_eq_true rfl)) dX7_listPieces_27 ⟨Nat.le_of_ble_eq_true rfl, Nat.le_of_ble_eq_true rfl⟩) hS (fun q _ h => hFc q h) hFc (fun r_187 u t H locs ht hvm hw hB hz1 hk1 hS => ?_)
                                      refine W.widen (k := 0) (n := 0) (Nat.le_of_ble_eq_true rfl) (Nat.le_of_ble_eq_true rfl) ?_
                                      subst hw
                                      obtain ⟨hre_188, hP1, hK1, hD1⟩ := hB
                                      refine lq_top (v := 0) hre_188 ?_
                                      rw [ht] at hP1
                                      have hK1 := va_K.moved hvm.symm hK1
                                      obtain ⟨hP, hD⟩ := va_join (wr := [(h0, .inr (7, [.ref bo, .ref l1, .ref l2, .int 0, .ref l3, .int 0, .ref l4, .ref l5, .ref l6, .int 0, .int 0, .int 0, .int 0]))]) (w1 := [(bo, .inr (1, [.ref b0, .int 0, .ref b1, .int 0, .ref b2, .int 0, .ref b3, .int 0]))]) hP hD [1] [0] rfl rfl (by decide) (by decide) hk1 hFc hP1 hD1
                                      have hK := (hK.sub (tys' := []) [] rfl).app hK1
                                      have hP : va_P (dC, dI) vwCl [(h0, .inr (7, [.ref bo, .ref l1, .ref l2, .int 0, .ref l3, .int 0, .ref l4, .ref l5, .ref l6, .int 0, .int 0, .int 0, .int 0])), (bo, .inr (1, [.ref b0, .int 0, .ref b1, .int 0, .ref b2, .int 0, .ref b3, .int 0]))] H := hP
                                      have hD : va_D A [(h0, .inr (7, [.ref bo, .ref l1, .ref l2, .int 0, .ref l3, .int 0, .ref l4, .ref l5, .ref l6, .int 0, .int 0, .int 0, .int 0])), (bo, .inr (1, [.ref b0, .int 0, .ref b1, .int 0, .ref b2, .int 0, .ref b3, .int 0]))] := hD
                                      have hK : va_K (dC, dI) vwCl [] s := hK
                                      refine lv_if_eq (tgt := 57) hx hb dX7_listPieces_30 (by decide) (fun c_189 => ?_) (fun c_189 => absurd c_189 (fun z => z (by decide)))
                                      refine lv_iconst (v := 0) hx hb dX7_listPieces_57 (by decide) ?_
                                      refine lv_istore_n (lv' := [(3, .int 0), (2, .int 17), (0, .ref h0), (1, .int p0)]) hx hb dX7_listPieces_58 rfl hl (by decide) rfl (fun ls hl => ?_)
                                      refine lv_iload_n hx hb dX7_listPieces_59 rfl (lv_at hl 0 rfl) ?_
                                      refine lv_if_ne (tgt := 65) hx hb dX7_listPieces_60 (by decide) (fun c_190 => absurd c_190 (fun z => z (by decide))) (fun c_190 => ?_)
                                      refine lv_iconst (v := 0) hx hb dX7_listPieces_63 (by decide) ?_
                                      have hP9 := hP.sub (ws' := [(h0, .inr (7, [.ref bo, .ref l1, .ref l2, .int 0, .ref l3, .int 0, .ref l4, .ref l5, .ref l6, .int 0, .int 0, .int 0, .int 0])), (bo, .inr (1, [.ref b0, .int 0, .ref b1, .int 0, .ref b2, .int 0, .ref b3, .int 0]))]) [0, 1] rfl
                                      have hD9 := hD.sub (ws' := [(h0, .inr (7, [.ref bo, .ref l1, .ref l2, .int 0, .ref l3, .int 0, .ref l4, .ref l5, .ref l6, .int 0, .int 0, .int 0, .int 0])), (bo, .inr (1, [.ref b0, .int 0, .ref b1, .int 0, .ref b2, .int 0, .ref b3, .int 0]))]) [0, 1] (by decide) rfl
                                      have hK9 := hK.sub (tys' := []) [] rfl
                                      exact W.zret (v := 0) hx hb hr (by decide) (fun t ht hW => ⟨⟨0, 0, rfl, rfl, ⟨rfl, by rw [ht]; exact hP9, va_K.moved hW.alike hK9, hD9⟩⟩, hS.F ht⟩) hS.2.2 dX7_listPieces_64
                                  · refine lv_aload_n hx hb dX7_listPieces_22 rfl (lv_at hl 1 rfl) ?_
                                    refine va_get (D := (dC, dI)) (ci := 7) (v := .ref bo) (C := RX7) (T := TX7) (N := 13) hx hb hts (fun _ hh => (List.mem_cons_of_mem _ (List.mem_append_right _ (List.mem_append_left _ hh)))) hown hK hP 0 rfl rfl 0 (by decide) (hts (.fieldLink RX7 27 "TypingPool$Planner" "book" "LTypingPool$Book;") (List.mem_cons_of_mem _ (List.mem_append_left _ (List.mem_of_getElem? (i := 1) rfl)))) (fun _ h9 => h9) rfl dX7_listPieces_23 ?_
                                    refine lv_iload_n hx hb dX7_listPieces_26 rfl (lv_at hl 0 rfl) ?_
                                    have hPc := hP.sub (ws' := [(bo, .inr (1, [.ref b0, .int 0, .ref b1, .int 0, .ref b2, .int 0, .ref b3, .int 0]))]) [1] rfl
                                    have hDc := hD.sub (ws' := [(bo, .inr (1, [.ref b0, .int 0, .ref b1, .int 0, .ref b2, .int 0, .ref b3, .int 0]))]) [1] (by decide) rfl
                                    have hKc := hK.sub (tys' := []) [] rfl
                                    have hFc := va_free (wc := [(bo, .inr (1, [.ref b0, .int 0, .ref b1, .int 0, .ref b2, .int 0, .ref b3, .int 0]))]) hD hS hA [1] rfl
                                    refine va_calli (va_runV (As := [.int 16]) (rest := []) ⟨hx, hb, hml, hown, hts⟩ (c_hasPiece0 l dC dI ad av H.size bo b0 b1 b2 b3 16 ) (cwV 1 hts (gi_4 (List.mem_cons_of_mem _ (List.mem_append_left _ (List.mem_of_getElem? (i := 2) rfl))) (List.mem_cons_of_mem _ (List.mem_append_left _ (List.mem_of_getElem? (i := 3) rfl))) (List.mem_cons_of_mem _ (List.mem_append_left _ (List.mem_of_getElem? (i := 4) rfl))) (List.mem_cons_of_mem _ (List.mem_append_left _ (List.mem_of_getElem? (i := 5) rfl))) (fun _ hh => (List.mem_cons_of_mem _ (List.mem_append_right _ (List.mem_append_right _ (List.mem_append_left _ hh))))) gd_c_hasPiece0) rfl rfl rfl (by decide +kernel) ⟨Nat.le_of_ble_eq_true rfl, Nat.le_of_ble_eq_true rfl⟩) ⟨pr_blind, va_recv hKc hPc (ci := 1) (q0 := 0) rfl rfl, pr_use hPc hKc hDc hFc hS hM⟩ rfl rfl hl.1 rfl (lv_room (Nat.le_of_ble_eq_true rfl)) dX7_listPieces_27 ⟨Nat.le_of_ble_eq_true rfl, Nat.le_of_ble_eq_true rfl⟩) hS (fun q _ h => hFc q h) hFc (fun r_191 u t H locs ht hvm hw hB hz1 hk1 hS => ?_)
                                    refine W.widen (k := 0) (n := 0) (Nat.le_of_ble_eq_true rfl) (Nat.le_of_ble_eq_true rfl) ?_
                                    subst hw
                                    obtain ⟨hre_192, hP1, hK1, hD1⟩ := hB
                                    refine lq_top (v := 0) hre_192 ?_
                                    rw [ht] at hP1
                                    have hK1 := va_K.moved hvm.symm hK1
                                    obtain ⟨hP, hD⟩ := va_join (wr := [(h0, .inr (7, [.ref bo, .ref l1, .ref l2, .int 0, .ref l3, .int 0, .ref l4, .ref l5, .ref l6, .int 0, .int 0, .int 0, .int 0]))]) (w1 := [(bo, .inr (1, [.ref b0, .int 0, .ref b1, .int 0, .ref b2, .int 0, .ref b3, .int 0]))]) hP hD [1] [0] rfl rfl (by decide) (by decide) hk1 hFc hP1 hD1
                                    have hK := (hK.sub (tys' := []) [] rfl).app hK1
                                    have hP : va_P (dC, dI) vwCl [(h0, .inr (7, [.ref bo, .ref l1, .ref l2, .int 0, .ref l3, .int 0, .ref l4, .ref l5, .ref l6, .int 0, .int 0, .int 0, .int 0])), (bo, .inr (1, [.ref b0, .int 0, .ref b1, .int 0, .ref b2, .int 0, .ref b3, .int 0]))] H := hP
                                    have hD : va_D A [(h0, .inr (7, [.ref bo, .ref l1, .ref l2, .int 0, .ref l3, .int 0, .ref l4, .ref l5, .ref l6, .int 0, .int 0, .int 0, .int 0])), (bo, .inr (1, [.ref b0, .int 0, .ref b1, .int 0, .ref b2, .int 0, .ref b3, .int 0]))] := hD
                                    have hK : va_K (dC, dI) vwCl [] s := hK
                                    refine lv_if_eq (tgt := 57) hx hb dX7_listPieces_30 (by decide) (fun c_193 => ?_) (fun c_193 => absurd c_193 (fun z => z (by decide)))
                                    refine lv_iconst (v := 0) hx hb dX7_listPieces_57 (by decide) ?_
                                    refine lv_istore_n (lv' := [(3, .int 0), (2, .int 16), (0, .ref h0), (1, .int p0)]) hx hb dX7_listPieces_58 rfl hl (by decide) rfl (fun ls hl => ?_)
                                    refine lv_iload_n hx hb dX7_listPieces_59 rfl (lv_at hl 0 rfl) ?_
                                    refine lv_if_ne (tgt := 65) hx hb dX7_listPieces_60 (by decide) (fun c_194 => absurd c_194 (fun z => z (by decide))) (fun c_194 => ?_)
                                    refine lv_iconst (v := 0) hx hb dX7_listPieces_63 (by decide) ?_
                                    have hP9 := hP.sub (ws' := [(h0, .inr (7, [.ref bo, .ref l1, .ref l2, .int 0, .ref l3, .int 0, .ref l4, .ref l5, .ref l6, .int 0, .int 0, .int 0, .int 0])), (bo, .inr (1, [.ref b0, .int 0, .ref b1, .int 0, .ref b2, .int 0, .ref b3, .int 0]))]) [0, 1] rfl
                                    have hD9 := hD.sub (ws' := [(h0, .inr (7, [.ref bo, .ref l1, .ref l2, .int 0, .ref l3, .int 0, .ref l4, .ref l5, .ref l6, .int 0, .int 0, .int 0, .int 0])), (bo, .inr (1, [.ref b0, .int 0, .ref b1, .int 0, .ref b2, .int 0, .ref b3, .int 0]))]) [0, 1] (by decide) rfl
                                    have hK9 := hK.sub (tys' := []) [] rfl
                                    exact W.zret (v := 0) hx hb hr (by decide) (fun t ht hW => ⟨⟨0, 0, rfl, rfl, ⟨rfl, by rw [ht]; exact hP9, va_K.moved hW.alike hK9, hD9⟩⟩, hS.F ht⟩) hS.2.2 dX7_listPieces_64
                                · refine lv_aload_n hx hb dX7_listPieces_22 rfl (lv_at hl 1 rfl) ?_
                                  refine va_get (D := (dC, dI)) (ci := 7) (v := .ref bo) (C := RX7) (T := TX7) (N := 13) hx hb hts (fun _ hh => (List.mem_cons_of_mem _ (List.mem_append_right _ (List.mem_append_left _ hh)))) hown hK hP 0 rfl rfl 0 (by decide) (hts (.fieldLink RX7 27 "TypingPool$Planner" "book" "LTypingPool$Book;") (List.mem_cons_of_mem _ (List.mem_append_left _ (List.mem_of_getElem? (i := 1) rfl)))) (fun _ h9 => h9) rfl dX7_listPieces_23 ?_
                                  refine lv_iload_n hx hb dX7_listPieces_26 rfl (lv_at hl 0 rfl) ?_
                                  have hPc := hP.sub (ws' := [(bo, .inr (1, [.ref b0, .int 0, .ref b1, .int 0, .ref b2, .int 0, .ref b3, .int 0]))]) [1] rfl
                                  have hDc := hD.sub (ws' := [(bo, .inr (1, [.ref b0, .int 0, .ref b1, .int 0, .ref b2, .int 0, .ref b3, .int 0]))]) [1] (by decide) rfl
                                  have hKc := hK.sub (tys' := []) [] rfl
                                  have hFc := va_free (wc := [(bo, .inr (1, [.ref b0, .int 0, .ref b1, .int 0, .ref b2, .int 0, .ref b3, .int 0]))]) hD hS hA [1] rfl
                                  refine va_calli (va_runV (As := [.int 15]) (rest := []) ⟨hx, hb, hml, hown, hts⟩ (c_hasPiece0 l dC dI ad av H.size bo b0 b1 b2 b3 15 ) (cwV 1 hts (gi_4 (List.mem_cons_of_mem _ (List.mem_append_left _ (List.mem_of_getElem? (i := 2) rfl))) (List.mem_cons_of_mem _ (List.mem_append_left _ (List.mem_of_getElem? (i := 3) rfl))) (List.mem_cons_of_mem _ (List.mem_append_left _ (List.mem_of_getElem? (i := 4) rfl))) (List.mem_cons_of_mem _ (List.mem_append_left _ (List.mem_of_getElem? (i := 5) rfl))) (fun _ hh => (List.mem_cons_of_mem _ (List.mem_append_right _ (List.mem_append_right _ (List.mem_append_left _ hh))))) gd_c_hasPiece0) rfl rfl rfl (by decide +kernel) ⟨Nat.le_of_ble_eq_true rfl, Nat.le_of_ble_eq_true rfl⟩) ⟨pr_blind, va_recv hKc hPc (ci := 1) (q0 := 0) rfl rfl, pr_use hPc hKc hDc hFc hS hM⟩ rfl rfl hl.1 rfl (lv_room (Nat.le_of_ble_eq_true rfl)) dX7_listPieces_27 ⟨Nat.le_of_ble_eq_true rfl, Nat.le_of_ble_eq_true rfl⟩) hS (fun q _ h => hFc q h) hFc (fun r_195 u t H locs ht hvm hw hB hz1 hk1 hS => ?_)
                                  refine W.widen (k := 0) (n := 0) (Nat.le_of_ble_eq_true rfl) (Nat.le_of_ble_eq_true rfl) ?_
                                  subst hw
                                  obtain ⟨hre_196, hP1, hK1, hD1⟩ := hB
                                  refine lq_top (v := 0) hre_196 ?_
                                  rw [ht] at hP1
                                  have hK1 := va_K.moved hvm.symm hK1
                                  obtain ⟨hP, hD⟩ := va_join (wr := [(h0, .inr (7, [.ref bo, .ref l1, .ref l2, .int 0, .ref l3, .int 0, .ref l4, .ref l5, .ref l6, .int 0, .int 0, .int 0, .int 0]))]) (w1 := [(bo, .inr (1, [.ref b0, .int 0, .ref b1, .int 0, .ref b2, .int 0, .ref b3, .int 0]))]) hP hD [1] [0] rfl rfl (by decide) (by decide) hk1 hFc hP1 hD1
                                  have hK := (hK.sub (tys' := []) [] rfl).app hK1
                                  have hP : va_P (dC, dI) vwCl [(h0, .inr (7, [.ref bo, .ref l1, .ref l2, .int 0, .ref l3, .int 0, .ref l4, .ref l5, .ref l6, .int 0, .int 0, .int 0, .int 0])), (bo, .inr (1, [.ref b0, .int 0, .ref b1, .int 0, .ref b2, .int 0, .ref b3, .int 0]))] H := hP
                                  have hD : va_D A [(h0, .inr (7, [.ref bo, .ref l1, .ref l2, .int 0, .ref l3, .int 0, .ref l4, .ref l5, .ref l6, .int 0, .int 0, .int 0, .int 0])), (bo, .inr (1, [.ref b0, .int 0, .ref b1, .int 0, .ref b2, .int 0, .ref b3, .int 0]))] := hD
                                  have hK : va_K (dC, dI) vwCl [] s := hK
                                  refine lv_if_eq (tgt := 57) hx hb dX7_listPieces_30 (by decide) (fun c_197 => ?_) (fun c_197 => absurd c_197 (fun z => z (by decide)))
                                  refine lv_iconst (v := 0) hx hb dX7_listPieces_57 (by decide) ?_
                                  refine lv_istore_n (lv' := [(3, .int 0), (2, .int 15), (0, .ref h0), (1, .int p0)]) hx hb dX7_listPieces_58 rfl hl (by decide) rfl (fun ls hl => ?_)
                                  refine lv_iload_n hx hb dX7_listPieces_59 rfl (lv_at hl 0 rfl) ?_
                                  refine lv_if_ne (tgt := 65) hx hb dX7_listPieces_60 (by decide) (fun c_198 => absurd c_198 (fun z => z (by decide))) (fun c_198 => ?_)
                                  refine lv_iconst (v := 0) hx hb dX7_listPieces_63 (by decide) ?_
                                  have hP9 := hP.sub (ws' := [(h0, .inr (7, [.ref bo, .ref l1, .ref l2, .int 0, .ref l3, .int 0, .ref l4, .ref l5, .ref l6, .int 0, .int 0, .int 0, .int 0])), (bo, .inr (1, [.ref b0, .int 0, .ref b1, .int 0, .ref b2, .int 0, .ref b3, .int 0]))]) [0, 1] rfl
                                  have hD9 := hD.sub (ws' := [(h0, .inr (7, [.ref bo, .ref l1, .ref l2, .int 0, .ref l3, .int 0, .ref l4, .ref l5, .ref l6, .int 0, .int 0, .int 0, .int 0])), (bo, .inr (1, [.ref b0, .int 0, .ref b1, .int 0, .ref b2, .int 0, .ref b3, .int 0]))]) [0, 1] (by decide) rfl
                                  have hK9 := hK.sub (tys' := []) [] rfl
                                  exact W.zret (v := 0) hx hb hr (by decide) (fun t ht hW => ⟨⟨0, 0, rfl, rfl, ⟨rfl, by rw [ht]; exact hP9, va_K.moved hW.alike hK9, hD9⟩⟩, hS.F ht⟩) hS.2.2 dX7_listPieces_64
                              · refine lv_aload_n hx hb dX7_listPieces_22 rfl (lv_at hl 1 rfl) ?_
                                refine va_get (D := (dC, dI)) (ci := 7) (v := .ref bo) (C := RX7) (T := TX7) (N := 13) hx hb hts (fun _ hh => (List.mem_cons_of_mem _ (List.mem_append_right _ (List.mem_append_left _ hh)))) hown hK hP 0 rfl rfl 0 (by decide) (hts (.fieldLink RX7 27 "TypingPool$Planner" "book" "LTypingPool$Book;") (List.mem_cons_of_mem _ (List.mem_append_left _ (List.mem_of_getElem? (i := 1) rfl)))) (fun _ h9 => h9) rfl dX7_listPieces_23 ?_
                                refine lv_iload_n hx hb dX7_listPieces_26 rfl (lv_at hl 0 rfl) ?_
                                have hPc := hP.sub (ws' := [(bo, .inr (1, [.ref b0, .int 0, .ref b1, .int 0, .ref b2, .int 0, .ref b3, .int 0]))]) [1] rfl
                                have hDc := hD.sub (ws' := [(bo, .inr (1, [.ref b0, .int 0, .ref b1, .int 0, .ref b2, .int 0, .ref b3, .int 0]))]) [1] (by decide) rfl
                                have hKc := hK.sub (tys' := []) [] rfl
                                have hFc := va_free (wc := [(bo, .inr (1, [.ref b0, .int 0, .ref b1, .int 0, .ref b2, .int 0, .ref b3, .int 0]))]) hD hS hA [1] rfl
                                refine va_calli (va_runV (As := [.int 14]) (rest := []) ⟨hx, hb, hml, hown, hts⟩ (c_hasPiece0 l dC dI ad av H.size bo b0 b1 b2 b3 14 ) (cwV 1 hts (gi_4 (List.mem_cons_of_mem _ (List.mem_append_left _ (List.mem_of_getElem? (i := 2) rfl))) (List.mem_cons_of_mem _ (List.mem_append_left _ (List.mem_of_getElem? (i := 3) rfl))) (List.mem_cons_of_mem _ (List.mem_append_left _ (List.mem_of_getElem? (i := 4) rfl))) (List.mem_cons_of_mem _ (List.mem_append_left _ (List.mem_of_getElem? (i := 5) rfl))) (fun _ hh => (List.mem_cons_of_mem _ (List.mem_append_right _ (List.mem_append_right _ (List.mem_append_left _ hh))))) gd_c_hasPiece0) rfl rfl rfl (by decide +kernel) ⟨Nat.le_of_ble_eq_true rfl, Nat.le_of_ble_eq_true rfl⟩) ⟨pr_blind, va_recv hKc hPc (ci := 1) (q0 := 0) rfl rfl, pr_use hPc hKc hDc hFc hS hM⟩ rfl rfl hl.1 rfl (lv_room (Nat.le_of_ble_eq_true rfl)) dX7_listPieces_27 ⟨Nat.le_of_ble_eq_true rfl, Nat.le_of_ble_eq_true rfl⟩) hS (fun q _ h => hFc q h) hFc (fun r_199 u t H locs ht hvm hw hB hz1 hk1 hS => ?_)
                                refine W.widen (k := 0) (n := 0) (Nat.le_of_ble_eq_true rfl) (Nat.le_of_ble_eq_true rfl) ?_
                                subst hw
                                obtain ⟨hre_200, hP1, hK1, hD1⟩ := hB
                                refine lq_top (v := 0) hre_200 ?_
                                rw [ht] at hP1
                                have hK1 := va_K.moved hvm.symm hK1
                                obtain ⟨hP, hD⟩ := va_join (wr := [(h0, .inr (7, [.ref bo, .ref l1, .ref l2, .int 0, .ref l3, .int 0, .ref l4, .ref l5, .ref l6, .int 0, .int 0, .int 0, .int 0]))]) (w1 := [(bo, .inr (1, [.ref b0, .int 0, .ref b1, .int 0, .ref b2, .int 0, .ref b3, .int 0]))]) hP hD [1] [0] rfl rfl (by decide) (by decide) hk1 hFc hP1 hD1
                                have hK := (hK.sub (tys' := []) [] rfl).app hK1
                                have hP : va_P (dC, dI) vwCl [(h0, .inr (7, [.ref bo, .ref l1, .ref l2, .int 0, .ref l3, .int 0, .ref l4, .ref l5, .ref l6, .int 0, .int 0, .int 0, .int 0])), (bo, .inr (1, [.ref b0, .int 0, .ref b1, .int 0, .ref b2, .int 0, .ref b3, .int 0]))] H := hP
                                have hD : va_D A [(h0, .inr (7, [.ref bo, .ref l1, .ref l2, .int 0, .ref l3, .int 0, .ref l4, .ref l5, .ref l6, .int 0, .int 0, .int 0, .int 0])), (bo, .inr (1, [.ref b0, .int 0, .ref b1, .int 0, .ref b2, .int 0, .ref b3, .int 0]))] := hD
                                have hK : va_K (dC, dI) vwCl [] s := hK
                                refine lv_if_eq (tgt := 57) hx hb dX7_listPieces_30 (by decide) (fun c_201 => ?_) (fun c_201 => absurd c_201 (fun z => z (by decide)))
                                refine lv_iconst (v := 0) hx hb dX7_listPieces_57 (by decide) ?_
                                refine lv_istore_n (lv' := [(3, .int 0), (2, .int 14), (0, .ref h0), (1, .int p0)]) hx hb dX7_listPieces_58 rfl hl (by decide) rfl (fun ls hl => ?_)
                                refine lv_iload_n hx hb dX7_listPieces_59 rfl (lv_at hl 0 rfl) ?_
                                refine lv_if_ne (tgt := 65) hx hb dX7_listPieces_60 (by decide) (fun c_202 => absurd c_202 (fun z => z (by decide))) (fun c_202 => ?_)
                                refine lv_iconst (v := 0) hx hb dX7_listPieces_63 (by decide) ?_
                                have hP9 := hP.sub (ws' := [(h0, .inr (7, [.ref bo, .ref l1, .ref l2, .int 0, .ref l3, .int 0, .ref l4, .ref l5, .ref l6, .int 0, .int 0, .int 0, .int 0])), (bo, .inr (1, [.ref b0, .int 0, .ref b1, .int 0, .ref b2, .int 0, .ref b3, .int 0]))]) [0, 1] rfl
                                have hD9 := hD.sub (ws' := [(h0, .inr (7, [.ref bo, .ref l1, .ref l2, .int 0, .ref l3, .int 0, .ref l4, .ref l5, .ref l6, .int 0, .int 0, .int 0, .int 0])), (bo, .inr (1, [.ref b0, .int 0, .ref b1, .int 0, .ref b2, .int 0, .ref b3, .int 0]))]) [0, 1] (by decide) rfl
                                have hK9 := hK.sub (tys' := []) [] rfl
                                exact W.zret (v := 0) hx hb hr (by decide) (fun t ht hW => ⟨⟨0, 0, rfl, rfl, ⟨rfl, by rw [ht]; exact hP9, va_K.moved hW.alike hK9, hD9⟩⟩, hS.F ht⟩) hS.2.2 dX7_listPieces_64
                            · refine lv_aload_n hx hb dX7_listPieces_22 rfl (lv_at hl 1 rfl) ?_
                              refine va_get (D := (dC, dI)) (ci := 7) (v := .ref bo) (C := RX7) (T := TX7) (N := 13) hx hb hts (fun _ hh => (List.mem_cons_of_mem _ (List.mem_append_right _ (List.mem_append_left _ hh)))) hown hK hP 0 rfl rfl 0 (by decide) (hts (.fieldLink RX7 27 "TypingPool$Planner" "book" "LTypingPool$Book;") (List.mem_cons_of_mem _ (List.mem_append_left _ (List.mem_of_getElem? (i := 1) rfl)))) (fun _ h9 => h9) rfl dX7_listPieces_23 ?_
                              refine lv_iload_n hx hb dX7_listPieces_26 rfl (lv_at hl 0 rfl) ?_
                              have hPc := hP.sub (ws' := [(bo, .inr (1, [.ref b0, .int 0, .ref b1, .int 0, .ref b2, .int 0, .ref b3, .int 0]))]) [1] rfl
                              have hDc := hD.sub (ws' := [(bo, .inr (1, [.ref b0, .int 0, .ref b1, .int 0, .ref b2, .int 0, .ref b3, .int 0]))]) [1] (by decide) rfl
                              have hKc := hK.sub (tys' := []) [] rfl
                              have hFc := va_free (wc := [(bo, .inr (1, [.ref b0, .int 0, .ref b1, .int 0, .ref b2, .int 0, .ref b3, .int 0]))]) hD hS hA [1] rfl
                              refine va_calli (va_runV (As := [.int 13]) (rest := []) ⟨hx, hb, hml, hown, hts⟩ (c_hasPiece0 l dC dI ad av H.size bo b0 b1 b2 b3 13 ) (cwV 1 hts (gi_4 (List.mem_cons_of_mem _ (List.mem_append_left _ (List.mem_of_getElem? (i := 2) rfl))) (List.mem_cons_of_mem _ (List.mem_append_left _ (List.mem_of_getElem? (i := 3) rfl))) (List.mem_cons_of_mem _ (List.mem_append_left _ (List.mem_of_getElem? (i := 4) rfl))) (List.mem_cons_of_mem _ (List.mem_append_left _ (List.mem_of_getElem? (i := 5) rfl))) (fun _ hh => (List.mem_cons_of_mem _ (List.mem_append_right _ (List.mem_append_right _ (List.mem_append_left _ hh))))) gd_c_hasPiece0) rfl rfl rfl (by decide +kernel) ⟨Nat.le_of_ble_eq_true rfl, Nat.le_of_ble_eq_true rfl⟩) ⟨pr_blind, va_recv hKc hPc (ci := 1) (q0 := 0) rfl rfl, pr_use hPc hKc hDc hFc hS hM⟩ rfl rfl hl.1 rfl (lv_room (Nat.le_of_ble_eq_true rfl)) dX7_listPieces_27 ⟨Nat.le_of_ble_eq_true rfl, Nat.le_of_ble_eq_true rfl⟩) hS (fun q _ h => hFc q h) hFc (fun r_203 u t H locs ht hvm hw hB hz1 hk1 hS => ?_)
                              refine W.widen (k := 0) (n := 0) (Nat.le_of_ble_eq_true rfl) (Nat.le_of_ble_eq_true rfl) ?_
                              subst hw
                              obtain ⟨hre_204, hP1, hK1, hD1⟩ := hB
                              refine lq_top (v := 0) hre_204 ?_
                              rw [ht] at hP1
                              have hK1 := va_K.moved hvm.symm hK1
                              obtain ⟨hP, hD⟩ := va_join (wr := [(h0, .inr (7, [.ref bo, .ref l1, .ref l2, .int 0, .ref l3, .int 0, .ref l4, .ref l5, .ref l6, .int 0, .int 0, .int 0, .int 0]))]) (w1 := [(bo, .inr (1, [.ref b0, .int 0, .ref b1, .int 0, .ref b2, .int 0, .ref b3, .int 0]))]) hP hD [1] [0] rfl rfl (by decide) (by decide) hk1 hFc hP1 hD1
                              have hK := (hK.sub (tys' := []) [] rfl).app hK1
                              have hP : va_P (dC, dI) vwCl [(h0, .inr (7, [.ref bo, .ref l1, .ref l2, .int 0, .ref l3, .int 0, .ref l4, .ref l5, .ref l6, .int 0, .int 0, .int 0, .int 0])), (bo, .inr (1, [.ref b0, .int 0, .ref b1, .int 0, .ref b2, .int 0, .ref b3, .int 0]))] H := hP
                              have hD : va_D A [(h0, .inr (7, [.ref bo, .ref l1, .ref l2, .int 0, .ref l3, .int 0, .ref l4, .ref l5, .ref l6, .int 0, .int 0, .int 0, .int 0])), (bo, .inr (1, [.ref b0, .int 0, .ref b1, .int 0, .ref b2, .int 0, .ref b3, .int 0]))] := hD
                              have hK : va_K (dC, dI) vwCl [] s := hK
                              refine lv_if_eq (tgt := 57) hx hb dX7_listPieces_30 (by decide) (fun c_205 => ?_) (fun c_205 => absurd c_205 (fun z => z (by decide)))
                              refine lv_iconst (v := 0) hx hb dX7_listPieces_57 (by decide) ?_
                              refine lv_istore_n (lv' := [(3, .int 0), (2, .int 13), (0, .ref h0), (1, .int p0)]) hx hb dX7_listPieces_58 rfl hl (by decide) rfl (fun ls hl => ?_)
                              refine lv_iload_n hx hb dX7_listPieces_59 rfl (lv_at hl 0 rfl) ?_
                              refine lv_if_ne (tgt := 65) hx hb dX7_listPieces_60 (by decide) (fun c_206 => absurd c_206 (fun z => z (by decide))) (fun c_206 => ?_)
                              refine lv_iconst (v := 0) hx hb dX7_listPieces_63 (by decide) ?_
                              have hP9 := hP.sub (ws' := [(h0, .inr (7, [.ref bo, .ref l1, .ref l2, .int 0, .ref l3, .int 0, .ref l4, .ref l5, .ref l6, .int 0, .int 0, .int 0, .int 0])), (bo, .inr (1, [.ref b0, .int 0, .ref b1, .int 0, .ref b2, .int 0, .ref b3, .int 0]))]) [0, 1] rfl
                              have hD9 := hD.sub (ws' := [(h0, .inr (7, [.ref bo, .ref l1, .ref l2, .int 0, .ref l3, .int 0, .ref l4, .ref l5, .ref l6, .int 0, .int 0, .int 0, .int 0])), (bo, .inr (1, [.ref b0, .int 0, .ref b1, .int 0, .ref b2, .int 0, .ref b3, .int 0]))]) [0, 1] (by decide) rfl
                              have hK9 := hK.sub (tys' := []) [] rfl
                              exact W.zret (v := 0) hx hb hr (by decide) (fun t ht hW => ⟨⟨0, 0, rfl, rfl, ⟨rfl, by rw [ht]; exact hP9, va_K.moved hW.alike hK9, hD9⟩⟩, hS.F ht⟩) hS.2.2 dX7_listPieces_64
                          · refine lv_aload_n hx hb dX7_listPieces_22 rfl (lv_at hl 1 rfl) ?_
                            refine va_get (D := (dC, dI)) (ci := 7) (v := .ref bo) (C := RX7) (T := TX7) (N := 13) hx hb hts (fun _ hh => (List.mem_cons_of_mem _ (List.mem_append_right _ (List.mem_append_left _ hh)))) hown hK hP 0 rfl rfl 0 (by decide) (hts (.fieldLink RX7 27 "TypingPool$Planner" "book" "LTypingPool$Book;") (List.mem_cons_of_mem _ (List.mem_append_left _ (List.mem_of_getElem? (i := 1) rfl)))) (fun _ h9 => h9) rfl dX7_listPieces_23 ?_
                            refine lv_iload_n hx hb dX7_listPieces_26 rfl (lv_at hl 0 rfl) ?_
                            have hPc := hP.sub (ws' := [(bo, .inr (1, [.ref b0, .int 0, .ref b1, .int 0, .ref b2, .int 0, .ref b3, .int 0]))]) [1] rfl
                            have hDc := hD.sub (ws' := [(bo, .inr (1, [.ref b0, .int 0, .ref b1, .int 0, .ref b2, .int 0, .ref b3, .int 0]))]) [1] (by decide) rfl
                            have hKc := hK.sub (tys' := []) [] rfl
                            have hFc := va_free (wc := [(bo, .inr (1, [.ref b0, .int 0, .ref b1, .int 0, .ref b2, .int 0, .ref b3, .int 0]))]) hD hS hA [1] rfl
                            refine va_calli (va_runV (As := [.int 12]) (rest := []) ⟨hx, hb, hml, hown, hts⟩ (c_hasPiece0 l dC dI ad av H.size bo b0 b1 b2 b3 12 ) (cwV 1 hts (gi_4 (List.mem_cons_of_mem _ (List.mem_append_left _ (List.mem_of_getElem? (i := 2) rfl))) (List.mem_cons_of_mem _ (List.mem_append_left _ (List.mem_of_getElem? (i := 3) rfl))) (List.mem_cons_of_mem _ (List.mem_append_left _ (List.mem_of_getElem? (i := 4) rfl))) (List.mem_cons_of_mem _ (List.mem_append_left _ (List.mem_of_getElem? (i := 5) rfl))) (fun _ hh => (List.mem_cons_of_mem _ (List.mem_append_right _ (List.mem_append_right _ (List.mem_append_left _ hh))))) gd_c_hasPiece0) rfl rfl rfl (by decide +kernel) ⟨Nat.le_of_ble_eq_true rfl, Nat.le_of_ble_eq_true rfl⟩) ⟨pr_blind, va_recv hKc hPc (ci := 1) (q0 := 0) rfl rfl, pr_use hPc hKc hDc hFc hS hM⟩ rfl rfl hl.1 rfl (lv_room (Nat.le_of_ble_eq_true rfl)) dX7_listPieces_27 ⟨Nat.le_of_ble_eq_true rfl, Nat.le_of_ble_eq_true rfl⟩) hS (fun q _ h => hFc q h) hFc (fun r_207 u t H locs ht hvm hw hB hz1 hk1 hS => ?_)
                            refine W.widen (k := 0) (n := 0) (Nat.le_of_ble_eq_true rfl) (Nat.le_of_ble_eq_true rfl) ?_
                            subst hw
                            obtain ⟨hre_208, hP1, hK1, hD1⟩ := hB
                            refine lq_top (v := 0) hre_208 ?_
                            rw [ht] at hP1
                            have hK1 := va_K.moved hvm.symm hK1
                            obtain ⟨hP, hD⟩ := va_join (wr := [(h0, .inr (7, [.ref bo, .ref l1, .ref l2, .int 0, .ref l3, .int 0, .ref l4, .ref l5, .ref l6, .int 0, .int 0, .int 0, .int 0]))]) (w1 := [(bo, .inr (1, [.ref b0, .int 0, .ref b1, .int 0, .ref b2, .int 0, .ref b3, .int 0]))]) hP hD [1] [0] rfl rfl (by decide) (by decide) hk1 hFc hP1 hD1
                            have hK := (hK.sub (tys' := []) [] rfl).app hK1
                            have hP : va_P (dC, dI) vwCl [(h0, .inr (7, [.ref bo, .ref l1, .ref l2, .int 0, .ref l3, .int 0, .ref l4, .ref l5, .ref l6, .int 0, .int 0, .int 0, .int 0])), (bo, .inr (1, [.ref b0, .int 0, .ref b1, .int 0, .ref b2, .int 0, .ref b3, .int 0]))] H := hP
                            have hD : va_D A [(h0, .inr (7, [.ref bo, .ref l1, .ref l2, .int 0, .ref l3, .int 0, .ref l4, .ref l5, .ref l6, .int 0, .int 0, .int 0, .int 0])), (bo, .inr (1, [.ref b0, .int 0, .ref b1, .int 0, .ref b2, .int 0, .ref b3, .int 0]))] := hD
                            have hK : va_K (dC, dI) vwCl [] s := hK
                            refine lv_if_eq (tgt := 57) hx hb dX7_listPieces_30 (by decide) (fun c_209 => ?_) (fun c_209 => absurd c_209 (fun z => z (by decide)))
                            refine lv_iconst (v := 0) hx hb dX7_listPieces_57 (by decide) ?_
                            refine lv_istore_n (lv' := [(3, .int 0), (2, .int 12), (0, .ref h0), (1, .int p0)]) hx hb dX7_listPieces_58 rfl hl (by decide) rfl (fun ls hl => ?_)
                            refine lv_iload_n hx hb dX7_listPieces_59 rfl (lv_at hl 0 rfl) ?_
                            refine lv_if_ne (tgt := 65) hx hb dX7_listPieces_60 (by decide) (fun c_210 => absurd c_210 (fun z => z (by decide))) (fun c_210 => ?_)
                            refine lv_iconst (v := 0) hx hb dX7_listPieces_63 (by decide) ?_
                            have hP9 := hP.sub (ws' := [(h0, .inr (7, [.ref bo, .ref l1, .ref l2, .int 0, .ref l3, .int 0, .ref l4, .ref l5, .ref l6, .int 0, .int 0, .int 0, .int 0])), (bo, .inr (1, [.ref b0, .int 0, .ref b1, .int 0, .ref b2, .int 0, .ref b3, .int 0]))]) [0, 1] rfl
                            have hD9 := hD.sub (ws' := [(h0, .inr (7, [.ref bo, .ref l1, .ref l2, .int 0, .ref l3, .int 0, .ref l4, .ref l5, .ref l6, .int 0, .int 0, .int 0, .int 0])), (bo, .inr (1, [.ref b0, .int 0, .ref b1, .int 0, .ref b2, .int 0, .ref b3, .int 0]))]) [0, 1] (by decide) rfl
                            have hK9 := hK.sub (tys' := []) [] rfl
                            exact W.zret (v := 0) hx hb hr (by decide) (fun t ht hW => ⟨⟨0, 0, rfl, rfl, ⟨rfl, by rw [ht]; exact hP9, va_K.moved hW.alike hK9, hD9⟩⟩, hS.F ht⟩) hS.2.2 dX7_listPieces_64
                        · refine lv_aload_n hx hb dX7_listPieces_22 rfl (lv_at hl 1 rfl) ?_
                          refine va_get (D := (dC, dI)) (ci := 7) (v := .ref bo) (C := RX7) (T := TX7) (N := 13) hx hb hts (fun _ hh => (List.mem_cons_of_mem _ (List.mem_append_right _ (List.mem_append_left _ hh)))) hown hK hP 0 rfl rfl 0 (by decide) (hts (.fieldLink RX7 27 "TypingPool$Planner" "book" "LTypingPool$Book;") (List.mem_cons_of_mem _ (List.mem_append_left _ (List.mem_of_getElem? (i := 1) rfl)))) (fun _ h9 => h9) rfl dX7_listPieces_23 ?_
                          refine lv_iload_n hx hb dX7_listPieces_26 rfl (lv_at hl 0 rfl) ?_
                          have hPc := hP.sub (ws' := [(bo, .inr (1, [.ref b0, .int 0, .ref b1, .int 0, .ref b2, .int 0, .ref b3, .int 0]))]) [1] rfl
                          have hDc := hD.sub (ws' := [(bo, .inr (1, [.ref b0, .int 0, .ref b1, .int 0, .ref b2, .int 0, .ref b3, .int 0]))]) [1] (by decide) rfl
                          have hKc := hK.sub (tys' := []) [] rfl
                          have hFc := va_free (wc := [(bo, .inr (1, [.ref b0, .int 0, .ref b1, .int 0, .ref b2, .int 0, .ref b3, .int 0]))]) hD hS hA [1] rfl
                          refine va_calli (va_runV (As := [.int 11]) (rest := []) ⟨hx, hb, hml, hown, hts⟩ (c_hasPiece0 l dC dI ad av H.size bo b0 b1 b2 b3 11 ) (cwV 1 hts (gi_4 (List.mem_cons_of_mem _ (List.mem_append_left _ (List.mem_of_getElem? (i := 2) rfl))) (List.mem_cons_of_mem _ (List.mem_append_left _ (List.mem_of_getElem? (i := 3) rfl))) (List.mem_cons_of_mem _ (List.mem_append_left _ (List.mem_of_getElem? (i := 4) rfl))) (List.mem_cons_of_mem _ (List.mem_append_left _ (List.mem_of_getElem? (i := 5) rfl))) (fun _ hh => (List.mem_cons_of_mem _ (List.mem_append_right _ (List.mem_append_right _ (List.mem_append_left _ hh))))) gd_c_hasPiece0) rfl rfl rfl (by decide +kernel) ⟨Nat.le_of_ble_eq_true rfl, Nat.le_of_ble_eq_true rfl⟩) ⟨pr_blind, va_recv hKc hPc (ci := 1) (q0 := 0) rfl rfl, pr_use hPc hKc hDc hFc hS hM⟩ rfl rfl hl.1 rfl (lv_room (Nat.le_of_ble_eq_true rfl)) dX7_listPieces_27 ⟨Nat.le_of_ble_eq_true rfl, Nat.le_of_ble_eq_true rfl⟩) hS (fun q _ h => hFc q h) hFc (fun r_211 u t H locs ht hvm hw hB hz1 hk1 hS => ?_)
                          refine W.widen (k := 0) (n := 0) (Nat.le_of_ble_eq_true rfl) (Nat.le_of_ble_eq_true rfl) ?_
                          subst hw
                          obtain ⟨hre_212, hP1, hK1, hD1⟩ := hB
                          refine lq_top (v := 0) hre_212 ?_
                          rw [ht] at hP1
                          have hK1 := va_K.moved hvm.symm hK1
                          obtain ⟨hP, hD⟩ := va_join (wr := [(h0, .inr (7, [.ref bo, .ref l1, .ref l2, .int 0, .ref l3, .int 0, .ref l4, .ref l5, .ref l6, .int 0, .int 0, .int 0, .int 0]))]) (w1 := [(bo, .inr (1, [.ref b0, .int 0, .ref b1, .int 0, .ref b2, .int 0, .ref b3, .int 0]))]) hP hD [1] [0] rfl rfl (by decide) (by decide) hk1 hFc hP1 hD1
                          have hK := (hK.sub (tys' := []) [] rfl).app hK1
                          have hP : va_P (dC, dI) vwCl [(h0, .inr (7, [.ref bo, .ref l1, .ref l2, .int 0, .ref l3, .int 0, .ref l4, .ref l5, .ref l6, .int 0, .int 0, .int 0, .int 0])), (bo, .inr (1, [.ref b0, .int 0, .ref b1, .int 0, .ref b2, .int 0, .ref b3, .int 0]))] H := hP
                          have hD : va_D A [(h0, .inr (7, [.ref bo, .ref l1, .ref l2, .int 0, .ref l3, .int 0, .ref l4, .ref l5, .ref l6, .int 0, .int 0, .int 0, .int 0])), (bo, .inr (1, [.ref b0, .int 0, .ref b1, .int 0, .ref b2, .int 0, .ref b3, .int 0]))] := hD
                          have hK : va_K (dC, dI) vwCl [] s := hK
                          refine lv_if_eq (tgt := 57) hx hb dX7_listPieces_30 (by decide) (fun c_213 => ?_) (fun c_213 => absurd c_213 (fun z => z (by decide)))
                          refine lv_iconst (v := 0) hx hb dX7_listPieces_57 (by decide) ?_
                          refine lv_istore_n (lv' := [(3, .int 0), (2, .int 11), (0, .ref h0), (1, .int p0)]) hx hb dX7_listPieces_58 rfl hl (by decide) rfl (fun ls hl => ?_)
                          refine lv_iload_n hx hb dX7_listPieces_59 rfl (lv_at hl 0 rfl) ?_
                          refine lv_if_ne (tgt := 65) hx hb dX7_listPieces_60 (by decide) (fun c_214 => absurd c_214 (fun z => z (by decide))) (fun c_214 => ?_)
                          refine lv_iconst (v := 0) hx hb dX7_listPieces_63 (by decide) ?_
                          have hP9 := hP.sub (ws' := [(h0, .inr (7, [.ref bo, .ref l1, .ref l2, .int 0, .ref l3, .int 0, .ref l4, .ref l5, .ref l6, .int 0, .int 0, .int 0, .int 0])), (bo, .inr (1, [.ref b0, .int 0, .ref b1, .int 0, .ref b2, .int 0, .ref b3, .int 0]))]) [0, 1] rfl
                          have hD9 := hD.sub (ws' := [(h0, .inr (7, [.ref bo, .ref l1, .ref l2, .int 0, .ref l3, .int 0, .ref l4, .ref l5, .ref l6, .int 0, .int 0, .int 0, .int 0])), (bo, .inr (1, [.ref b0, .int 0, .ref b1, .int 0, .ref b2, .int 0, .ref b3, .int 0]))]) [0, 1] (by decide) rfl
                          have hK9 := hK.sub (tys' := []) [] rfl
                          exact W.zret (v := 0) hx hb hr (by decide) (fun t ht hW => ⟨⟨0, 0, rfl, rfl, ⟨rfl, by rw [ht]; exact hP9, va_K.moved hW.alike hK9, hD9⟩⟩, hS.F ht⟩) hS.2.2 dX7_listPieces_64
                      · refine lv_aload_n hx hb dX7_listPieces_22 rfl (lv_at hl 1 rfl) ?_
                        refine va_get (D := (dC, dI)) (ci := 7) (v := .ref bo) (C := RX7) (T := TX7) (N := 13) hx hb hts (fun _ hh => (List.mem_cons_of_mem _ (List.mem_append_right _ (List.mem_append_left _ hh)))) hown hK hP 0 rfl rfl 0 (by decide) (hts (.fieldLink RX7 27 "TypingPool$Planner" "book" "LTypingPool$Book;") (List.mem_cons_of_mem _ (List.mem_append_left _ (List.mem_of_getElem? (i := 1) rfl)))) (fun _ h9 => h9) rfl dX7_listPieces_23 ?_
                        refine lv_iload_n hx hb dX7_listPieces_26 rfl (lv_at hl 0 rfl) ?_
                        have hPc := hP.sub (ws' := [(bo, .inr (1, [.ref b0, .int 0, .ref b1, .int 0, .ref b2, .int 0, .ref b3, .int 0]))]) [1] rfl
                        have hDc := hD.sub (ws' := [(bo, .inr (1, [.ref b0, .int 0, .ref b1, .int 0, .ref b2, .int 0, .ref b3, .int 0]))]) [1] (by decide) rfl
                        have hKc := hK.sub (tys' := []) [] rfl
                        have hFc := va_free (wc := [(bo, .inr (1, [.ref b0, .int 0, .ref b1, .int 0, .ref b2, .int 0, .ref b3, .int 0]))]) hD hS hA [1] rfl
                        refine va_calli (va_runV (As := [.int 10]) (rest := []) ⟨hx, hb, hml, hown, hts⟩ (c_hasPiece0 l dC dI ad av H.size bo b0 b1 b2 b3 10 ) (cwV 1 hts (gi_4 (List.mem_cons_of_mem _ (List.mem_append_left _ (List.mem_of_getElem? (i := 2) rfl))) (List.mem_cons_of_mem _ (List.mem_append_left _ (List.mem_of_getElem? (i := 3) rfl))) (List.mem_cons_of_mem _ (List.mem_append_left _ (List.mem_of_getElem? (i := 4) rfl))) (List.mem_cons_of_mem _ (List.mem_append_left _ (List.mem_of_getElem? (i := 5) rfl))) (fun _ hh => (List.mem_cons_of_mem _ (List.mem_append_right _ (List.mem_append_right _ (List.mem_append_left _ hh))))) gd_c_hasPiece0) rfl rfl rfl (by decide +kernel) ⟨Nat.le_of_ble_eq_true rfl, Nat.le_of_ble_eq_true rfl⟩) ⟨pr_blind, va_recv hKc hPc (ci := 1) (q0 := 0) rfl rfl, pr_use hPc hKc hDc hFc hS hM⟩ rfl rfl hl.1 rfl (lv_room (Nat.le_of_ble_eq_true rfl)) dX7_listPieces_27 ⟨Nat.le_of_ble_eq_true rfl, Nat.le_of_ble_eq_true rfl⟩) hS (fun q _ h => hFc q h) hFc (fun r_215 u t H locs ht hvm hw hB hz1 hk1 hS => ?_)
                        refine W.widen (k := 0) (n := 0) (Nat.le_of_ble_eq_true rfl) (Nat.le_of_ble_eq_true rfl) ?_
                        subst hw
                        obtain ⟨hre_216, hP1, hK1, hD1⟩ := hB
                        refine lq_top (v := 0) hre_216 ?_
                        rw [ht] at hP1
                        have hK1 := va_K.moved hvm.symm hK1
                        obtain ⟨hP, hD⟩ := va_join (wr := [(h0, .inr (7, [.ref bo, .ref l1, .ref l2, .int 0, .ref l3, .int 0, .ref l4, .ref l5, .ref l6, .int 0, .int 0, .int 0, .int 0]))]) (w1 := [(bo, .inr (1, [.ref b0, .int 0, .ref b1, .int 0, .ref b2, .int 0, .ref b3, .int 0]))]) hP hD [1] [0] rfl rfl (by decide) (by decide) hk1 hFc hP1 hD1
                        have hK := (hK.sub (tys' := []) [] rfl).app hK1
                        have hP : va_P (dC, dI) vwCl [(h0, .inr (7, [.ref bo, .ref l1, .ref l2, .int 0, .ref l3, .int 0, .ref l4, .ref l5, .ref l6, .int 0, .int 0, .int 0, .int 0])), (bo, .inr (1, [.ref b0, .int 0, .ref b1, .int 0, .ref b2, .int 0, .ref b3, .int 0]))] H := hP
                        have hD : va_D A [(h0, .inr (7, [.ref bo, .ref l1, .ref l2, .int 0, .ref l3, .int 0, .ref l4, .ref l5, .ref l6, .int 0, .int 0, .int 0, .int 0])), (bo, .inr (1, [.ref b0, .int 0, .ref b1, .int 0, .ref b2, .int 0, .ref b3, .int 0]))] := hD
                        have hK : va_K (dC, dI) vwCl [] s := hK
                        refine lv_if_eq (tgt := 57) hx hb dX7_listPieces_30 (by decide) (fun c_217 => ?_) (fun c_217 => absurd c_217 (fun z => z (by decide)))
                        refine lv_iconst (v := 0) hx hb dX7_listPieces_57 (by decide) ?_
                        refine lv_istore_n (lv' := [(3, .int 0), (2, .int 10), (0, .ref h0), (1, .int p0)]) hx hb dX7_listPieces_58 rfl hl (by decide) rfl (fun ls hl => ?_)
                        refine lv_iload_n hx hb dX7_listPieces_59 rfl (lv_at hl 0 rfl) ?_
                        refine lv_if_ne (tgt := 65) hx hb dX7_listPieces_60 (by decide) (fun c_218 => absurd c_218 (fun z => z (by decide))) (fun c_218 => ?_)
                        refine lv_iconst (v := 0) hx hb dX7_listPieces_63 (by decide) ?_
                        have hP9 := hP.sub (ws' := [(h0, .inr (7, [.ref bo, .ref l1, .ref l2, .int 0, .ref l3, .int 0, .ref l4, .ref l5, .ref l6, .int 0, .int 0, .int 0, .int 0])), (bo, .inr (1, [.ref b0, .int 0, .ref b1, .int 0, .ref b2, .int 0, .ref b3, .int 0]))]) [0, 1] rfl
                        have hD9 := hD.sub (ws' := [(h0, .inr (7, [.ref bo, .ref l1, .ref l2, .int 0, .ref l3, .int 0, .ref l4, .ref l5, .ref l6, .int 0, .int 0, .int 0, .int 0])), (bo, .inr (1, [.ref b0, .int 0, .ref b1, .int 0, .ref b2, .int 0, .ref b3, .int 0]))]) [0, 1] (by decide) rfl
                        have hK9 := hK.sub (tys' := []) [] rfl
                        exact W.zret (v := 0) hx hb hr (by decide) (fun t ht hW => ⟨⟨0, 0, rfl, rfl, ⟨rfl, by rw [ht]; exact hP9, va_K.moved hW.alike hK9, hD9⟩⟩, hS.F ht⟩) hS.2.2 dX7_listPieces_64
                    · refine lv_aload_n hx hb dX7_listPieces_22 rfl (lv_at hl 1 rfl) ?_
                      refine va_get (D := (dC, dI)) (ci := 7) (v := .ref bo) (C := RX7) (T := TX7) (N := 13) hx hb hts (fun _ hh => (List.mem_cons_of_mem _ (List.mem_append_right _ (List.mem_append_left _ hh)))) hown hK hP 0 rfl rfl 0 (by decide) (hts (.fieldLink RX7 27 "TypingPool$Planner" "book" "LTypingPool$Book;") (List.mem_cons_of_mem _ (List.mem_append_left _ (List.mem_of_getElem? (i := 1) rfl)))) (fun _ h9 => h9) rfl dX7_listPieces_23 ?_
                      refine lv_iload_n hx hb dX7_listPieces_26 rfl (lv_at hl 0 rfl) ?_
                      have hPc := hP.sub (ws' := [(bo, .inr (1, [.ref b0, .int 0, .ref b1, .int 0, .ref b2, .int 0, .ref b3, .int 0]))]) [1] rfl
                      have hDc := hD.sub (ws' := [(bo, .inr (1, [.ref b0, .int 0, .ref b1, .int 0, .ref b2, .int 0, .ref b3, .int 0]))]) [1] (by decide) rfl
                      have hKc := hK.sub (tys' := []) [] rfl
                      have hFc := va_free (wc := [(bo, .inr (1, [.ref b0, .int 0, .ref b1, .int 0, .ref b2, .int 0, .ref b3, .int 0]))]) hD hS hA [1] rfl
                      refine va_calli (va_runV (As := [.int 9]) (rest := []) ⟨hx, hb, hml, hown, hts⟩ (c_hasPiece0 l dC dI ad av H.size bo b0 b1 b2 b3 9 ) (cwV 1 hts (gi_4 (List.mem_cons_of_mem _ (List.mem_append_left _ (List.mem_of_getElem? (i := 2) rfl))) (List.mem_cons_of_mem _ (List.mem_append_left _ (List.mem_of_getElem? (i := 3) rfl))) (List.mem_cons_of_mem _ (List.mem_append_left _ (List.mem_of_getElem? (i := 4) rfl))) (List.mem_cons_of_mem _ (List.mem_append_left _ (List.mem_of_getElem? (i := 5) rfl))) (fun _ hh => (List.mem_cons_of_mem _ (List.mem_append_right _ (List.mem_append_right _ (List.mem_append_left _ hh))))) gd_c_hasPiece0) rfl rfl rfl (by decide +kernel) ⟨Nat.le_of_ble_eq_true rfl, Nat.le_of_ble_eq_true rfl⟩) ⟨pr_blind, va_recv hKc hPc (ci := 1) (q0 := 0) rfl rfl, pr_use hPc hKc hDc hFc hS hM⟩ rfl rfl hl.1 rfl (lv_room (Nat.le_of_ble_eq_true rfl)) dX7_listPieces_27 ⟨Nat.le_of_ble_eq_true rfl, Nat.le_of_ble_eq_true rfl⟩) hS (fun q _ h => hFc q h) hFc (fun r_219 u t H locs ht hvm hw hB hz1 hk1 hS => ?_)
                      refine W.widen (k := 0) (n := 0) (Nat.le_of_ble_eq_true rfl) (Nat.le_of_ble_eq_true rfl) ?_
                      subst hw
                      obtain ⟨hre_220, hP1, hK1, hD1⟩ := hB
                      refine lq_top (v := 0) hre_220 ?_
                      rw [ht] at hP1
                      have hK1 := va_K.moved hvm.symm hK1
                      obtain ⟨hP, hD⟩ := va_join (wr := [(h0, .inr (7, [.ref bo, .ref l1, .ref l2, .int 0, .ref l3, .int 0, .ref l4, .ref l5, .ref l6, .int 0, .int 0, .int 0, .int 0]))]) (w1 := [(bo, .inr (1, [.ref b0, .int 0, .ref b1, .int 0, .ref b2, .int 0, .ref b3, .int 0]))]) hP hD [1] [0] rfl rfl (by decide) (by decide) hk1 hFc hP1 hD1
                      have hK := (hK.sub (tys' := []) [] rfl).app hK1
                      have hP : va_P (dC, dI) vwCl [(h0, .inr (7, [.ref bo, .ref l1, .ref l2, .int 0, .ref l3, .int 0, .ref l4, .ref l5, .ref l6, .int 0, .int 0, .int 0, .int 0])), (bo, .inr (1, [.ref b0, .int 0, .ref b1, .int 0, .ref b2, .int 0, .ref b3, .int 0]))] H := hP
                      have hD : va_D A [(h0, .inr (7, [.ref bo, .ref l1, .ref l2, .int 0, .ref l3, .int 0, .ref l4, .ref l5, .ref l6, .int 0, .int 0, .int 0, .int 0])), (bo, .inr (1, [.ref b0, .int 0, .ref b1, .int 0, .ref b2, .int 0, .ref b3, .int 0]))] := hD
                      have hK : va_K (dC, dI) vwCl [] s := hK
                      refine lv_if_eq (tgt := 57) hx hb dX7_listPieces_30 (by decide) (fun c_221 => ?_) (fun c_221 => absurd c_221 (fun z => z (by decide)))
                      refine lv_iconst (v := 0) hx hb dX7_listPieces_57 (by decide) ?_
                      refine lv_istore_n (lv' := [(3, .int 0), (2, .int 9), (0, .ref h0), (1, .int p0)]) hx hb dX7_listPieces_58 rfl hl (by decide) rfl (fun ls hl => ?_)
                      refine lv_iload_n hx hb dX7_listPieces_59 rfl (lv_at hl 0 rfl) ?_
                      refine lv_if_ne (tgt := 65) hx hb dX7_listPieces_60 (by decide) (fun c_222 => absurd c_222 (fun z => z (by decide))) (fun c_222 => ?_)
                      refine lv_iconst (v := 0) hx hb dX7_listPieces_63 (by decide) ?_
                      have hP9 := hP.sub (ws' := [(h0, .inr (7, [.ref bo, .ref l1, .ref l2, .int 0, .ref l3, .int 0, .ref l4, .ref l5, .ref l6, .int 0, .int 0, .int 0, .int 0])), (bo, .inr (1, [.ref b0, .int 0, .ref b1, .int 0, .ref b2, .int 0, .ref b3, .int 0]))]) [0, 1] rfl
                      have hD9 := hD.sub (ws' := [(h0, .inr (7, [.ref bo, .ref l1, .ref l2, .int 0, .ref l3, .int 0, .ref l4, .ref l5, .ref l6, .int 0, .int 0, .int 0, .int 0])), (bo, .inr (1, [.ref b0, .int 0, .ref b1, .int 0, .ref b2, .int 0, .ref b3, .int 0]))]) [0, 1] (by decide) rfl
                      have hK9 := hK.sub (tys' := []) [] rfl
                      exact W.zret (v := 0) hx hb hr (by decide) (fun t ht hW => ⟨⟨0, 0, rfl, rfl, ⟨rfl, by rw [ht]; exact hP9, va_K.moved hW.alike hK9, hD9⟩⟩, hS.F ht⟩) hS.2.2 dX7_listPieces_64
                  · refine lv_aload_n hx hb dX7_listPieces_22 rfl (lv_at hl 1 rfl) ?_
                    refine va_get (D := (dC, dI)) (ci := 7) (v := .ref bo) (C := RX7) (T := TX7) (N := 13) hx hb hts (fun _ hh => (List.mem_cons_of_mem _ (List.mem_append_right _ (List.mem_append_left _ hh)))) hown hK hP 0 rfl rfl 0 (by decide) (hts (.fieldLink RX7 27 "TypingPool$Planner" "book" "LTypingPool$Book;") (List.mem_cons_of_mem _ (List.mem_append_left _ (List.mem_of_getElem? (i := 1) rfl)))) (fun _ h9 => h9) rfl dX7_listPieces_23 ?_
                    refine lv_iload_n hx hb dX7_listPieces_26 rfl (lv_at hl 0 rfl) ?_
                    have hPc := hP.sub (ws' := [(bo, .inr (1, [.ref b0, .int 0, .ref b1, .int 0, .ref b2, .int 0, .ref b3, .int 0]))]) [1] rfl
                    have hDc := hD.sub (ws' := [(bo, .inr (1, [.ref b0, .int 0, .ref b1, .int 0, .ref b2, .int 0, .ref b3, .int 0]))]) [1] (by decide) rfl
                    have hKc := hK.sub (tys' := []) [] rfl
                    have hFc := va_free (wc := [(bo, .inr (1, [.ref b0, .int 0, .ref b1, .int 0, .ref b2, .int 0, .ref b3, .int 0]))]) hD hS hA [1] rfl
                    refine va_calli (va_runV (As := [.int 8]) (rest := []) ⟨hx, hb, hml, hown, hts⟩ (c_hasPiece0 l dC dI ad av H.size bo b0 b1 b2 b3 8 ) (cwV 1 hts (gi_4 (List.mem_cons_of_mem _ (List.mem_append_left _ (List.mem_of_getElem? (i := 2) rfl))) (List.mem_cons_of_mem _ (List.mem_append_left _ (List.mem_of_getElem? (i := 3) rfl))) (List.mem_cons_of_mem _ (List.mem_append_left _ (List.mem_of_getElem? (i := 4) rfl))) (List.mem_cons_of_mem _ (List.mem_append_left _ (List.mem_of_getElem? (i := 5) rfl))) (fun _ hh => (List.mem_cons_of_mem _ (List.mem_append_right _ (List.mem_append_right _ (List.mem_append_left _ hh))))) gd_c_hasPiece0) rfl rfl rfl (by decide +kernel) ⟨Nat.le_of_ble_eq_true rfl, Nat.le_of_ble_eq_true rfl⟩) ⟨pr_blind, va_recv hKc hPc (ci := 1) (q0 := 0) rfl rfl, pr_use hPc hKc hDc hFc hS hM⟩ rfl rfl hl.1 rfl (lv_room (Nat.le_of_ble_eq_true rfl)) dX7_listPieces_27 ⟨Nat.le_of_ble_eq_true rfl, Nat.le_of_ble_eq_true rfl⟩) hS (fun q _ h => hFc q h) hFc (fun r_223 u t H locs ht hvm hw hB hz1 hk1 hS => ?_)
                    refine W.widen (k := 0) (n := 0) (Nat.le_of_ble_eq_true rfl) (Nat.le_of_ble_eq_true rfl) ?_
                    subst hw
                    obtain ⟨hre_224, hP1, hK1, hD1⟩ := hB
                    refine lq_top (v := 0) hre_224 ?_
                    rw [ht] at hP1
                    have hK1 := va_K.moved hvm.symm hK1
                    obtain ⟨hP, hD⟩ := va_join (wr := [(h0, .inr (7, [.ref bo, .ref l1, .ref l2, .int 0, .ref l3, .int 0, .ref l4, .ref l5, .ref l6, .int 0, .int 0, .int 0, .int 0]))]) (w1 := [(bo, .inr (1, [.ref b0, .int 0, .ref b1, .int 0, .ref b2, .int 0, .ref b3, .int 0]))]) hP hD [1] [0] rfl rfl (by decide) (by decide) hk1 hFc hP1 hD1
                    have hK := (hK.sub (tys' := []) [] rfl).app hK1
                    have hP : va_P (dC, dI) vwCl [(h0, .inr (7, [.ref bo, .ref l1, .ref l2, .int 0, .ref l3, .int 0, .ref l4, .ref l5, .ref l6, .int 0, .int 0, .int 0, .int 0])), (bo, .inr (1, [.ref b0, .int 0, .ref b1, .int 0, .ref b2, .int 0, .ref b3, .int 0]))] H := hP
                    have hD : va_D A [(h0, .inr (7, [.ref bo, .ref l1, .ref l2, .int 0, .ref l3, .int 0, .ref l4, .ref l5, .ref l6, .int 0, .int 0, .int 0, .int 0])), (bo, .inr (1, [.ref b0, .int 0, .ref b1, .int 0, .ref b2, .int 0, .ref b3, .int 0]))] := hD
                    have hK : va_K (dC, dI) vwCl [] s := hK
                    refine lv_if_eq (tgt := 57) hx hb dX7_listPieces_30 (by decide) (fun c_225 => ?_) (fun c_225 => absurd c_225 (fun z => z (by decide)))
                    refine lv_iconst (v := 0) hx hb dX7_listPieces_57 (by decide) ?_
                    refine lv_istore_n (lv' := [(3, .int 0), (2, .int 8), (0, .ref h0), (1, .int p0)]) hx hb dX7_listPieces_58 rfl hl (by decide) rfl (fun ls hl => ?_)
                    refine lv_iload_n hx hb dX7_listPieces_59 rfl (lv_at hl 0 rfl) ?_
                    refine lv_if_ne (tgt := 65) hx hb dX7_listPieces_60 (by decide) (fun c_226 => absurd c_226 (fun z => z (by decide))) (fun c_226 => ?_)
                    refine lv_iconst (v := 0) hx hb dX7_listPieces_63 (by decide) ?_
                    have hP9 := hP.sub (ws' := [(h0, .inr (7, [.ref bo, .ref l1, .ref l2, .int 0, .ref l3, .int 0, .ref l4, .ref l5, .ref l6, .int 0, .int 0, .int 0, .int 0])), (bo, .inr (1, [.ref b0, .int 0, .ref b1, .int 0, .ref b2, .int 0, .ref b3, .int 0]))]) [0, 1] rfl
                    have hD9 := hD.sub (ws' := [(h0, .inr (7, [.ref bo, .ref l1, .ref l2, .int 0, .ref l3, .int 0, .ref l4, .ref l5, .ref l6, .int 0, .int 0, .int 0, .int 0])), (bo, .inr (1, [.ref b0, .int 0, .ref b1, .int 0, .ref b2, .int 0, .ref b3, .int 0]))]) [0, 1] (by decide) rfl
                    have hK9 := hK.sub (tys' := []) [] rfl
                    exact W.zret (v := 0) hx hb hr (by decide) (fun t ht hW => ⟨⟨0, 0, rfl, rfl, ⟨rfl, by rw [ht]; exact hP9, va_K.moved hW.alike hK9, hD9⟩⟩, hS.F ht⟩) hS.2.2 dX7_listPieces_64
                · refine lv_aload_n hx hb dX7_listPieces_22 rfl (lv_at hl 1 rfl) ?_
                  refine va_get (D := (dC, dI)) (ci := 7) (v := .ref bo) (C := RX7) (T := TX7) (N := 13) hx hb hts (fun _ hh => (List.mem_cons_of_mem _ (List.mem_append_right _ (List.mem_append_left _ hh)))) hown hK hP 0 rfl rfl 0 (by decide) (hts (.fieldLink RX7 27 "TypingPool$Planner" "book" "LTypingPool$Book;") (List.mem_cons_of_mem _ (List.mem_append_left _ (List.mem_of_getElem? (i := 1) rfl)))) (fun _ h9 => h9) rfl dX7_listPieces_23 ?_
                  refine lv_iload_n hx hb dX7_listPieces_26 rfl (lv_at hl 0 rfl) ?_
                  have hPc := hP.sub (ws' := [(bo, .inr (1, [.ref b0, .int 0, .ref b1, .int 0, .ref b2, .int 0, .ref b3, .int 0]))]) [1] rfl
                  have hDc := hD.sub (ws' := [(bo, .inr (1, [.ref b0, .int 0, .ref b1, .int 0, .ref b2, .int 0, .ref b3, .int 0]))]) [1] (by decide) rfl
                  have hKc := hK.sub (tys' := []) [] rfl
                  have hFc := va_free (wc := [(bo, .inr (1, [.ref b0, .int 0, .ref b1, .int 0, .ref b2, .int 0, .ref b3, .int 0]))]) hD hS hA [1] rfl
                  refine va_calli (va_runV (As := [.int 7]) (rest := []) ⟨hx, hb, hml, hown, hts⟩ (c_hasPiece0 l dC dI ad av H.size bo b0 b1 b2 b3 7 ) (cwV 1 hts (gi_4 (List.mem_cons_of_mem _ (List.mem_append_left _ (List.mem_of_getElem? (i := 2) rfl))) (List.mem_cons_of_mem _ (List.mem_append_left _ (List.mem_of_getElem? (i := 3) rfl))) (List.mem_cons_of_mem _ (List.mem_append_left _ (List.mem_of_getElem? (i := 4) rfl))) (List.mem_cons_of_mem _ (List.mem_append_left _ (List.mem_of_getElem? (i := 5) rfl))) (fun _ hh => (List.mem_cons_of_mem _ (List.mem_append_right _ (List.mem_append_right _ (List.mem_append_left _ hh))))) gd_c_hasPiece0) rfl rfl rfl (by decide +kernel) ⟨Nat.le_of_ble_eq_true rfl, Nat.le_of_ble_eq_true rfl⟩) ⟨pr_blind, va_recv hKc hPc (ci := 1) (q0 := 0) rfl rfl, pr_use hPc hKc hDc hFc hS hM⟩ rfl rfl hl.1 rfl (lv_room (Nat.le_of_ble_eq_true rfl)) dX7_listPieces_27 ⟨Nat.le_of_ble_eq_true rfl, Nat.le_of_ble_eq_true rfl⟩) hS (fun q _ h => hFc q h) hFc (fun r_227 u t H locs ht hvm hw hB hz1 hk1 hS => ?_)
                  refine W.widen (k := 0) (n := 0) (Nat.le_of_ble_eq_true rfl) (Nat.le_of_ble_eq_true rfl) ?_
                  subst hw
                  obtain ⟨hre_228, hP1, hK1, hD1⟩ := hB
                  refine lq_top (v := 0) hre_228 ?_
                  rw [ht] at hP1
                  have hK1 := va_K.moved hvm.symm hK1
                  obtain ⟨hP, hD⟩ := va_join (wr := [(h0, .inr (7, [.ref bo, .ref l1, .ref l2, .int 0, .ref l3, .int 0, .ref l4, .ref l5, .ref l6, .int 0, .int 0, .int 0, .int 0]))]) (w1 := [(bo, .inr (1, [.ref b0, .int 0, .ref b1, .int 0, .ref b2, .int 0, .ref b3, .int 0]))]) hP hD [1] [0] rfl rfl (by decide) (by decide) hk1 hFc hP1 hD1
                  have hK := (hK.sub (tys' := []) [] rfl).app hK1
                  have hP : va_P (dC, dI) vwCl [(h0, .inr (7, [.ref bo, .ref l1, .ref l2, .int 0, .ref l3, .int 0, .ref l4, .ref l5, .ref l6, .int 0, .int 0, .int 0, .int 0])), (bo, .inr (1, [.ref b0, .int 0, .ref b1, .int 0, .ref b2, .int 0, .ref b3, .int 0]))] H := hP
                  have hD : va_D A [(h0, .inr (7, [.ref bo, .ref l1, .ref l2, .int 0, .ref l3, .int 0, .ref l4, .ref l5, .ref l6, .int 0, .int 0, .int 0, .int 0])), (bo, .inr (1, [.ref b0, .int 0, .ref b1, .int 0, .ref b2, .int 0, .ref b3, .int 0]))] := hD
                  have hK : va_K (dC, dI) vwCl [] s := hK
                  refine lv_if_eq (tgt := 57) hx hb dX7_listPieces_30 (by decide) (fun c_229 => ?_) (fun c_229 => absurd c_229 (fun z => z (by decide)))
                  refine lv_iconst (v := 0) hx hb dX7_listPieces_57 (by decide) ?_
                  refine lv_istore_n (lv' := [(3, .int 0), (2, .int 7), (0, .ref h0), (1, .int p0)]) hx hb dX7_listPieces_58 rfl hl (by decide) rfl (fun ls hl => ?_)
                  refine lv_iload_n hx hb dX7_listPieces_59 rfl (lv_at hl 0 rfl) ?_
                  refine lv_if_ne (tgt := 65) hx hb dX7_listPieces_60 (by decide) (fun c_230 => absurd c_230 (fun z => z (by decide))) (fun c_230 => ?_)
                  refine lv_iconst (v := 0) hx hb dX7_listPieces_63 (by decide) ?_
                  have hP9 := hP.sub (ws' := [(h0, .inr (7, [.ref bo, .ref l1, .ref l2, .int 0, .ref l3, .int 0, .ref l4, .ref l5, .ref l6, .int 0, .int 0, .int 0, .int 0])), (bo, .inr (1, [.ref b0, .int 0, .ref b1, .int 0, .ref b2, .int 0, .ref b3, .int 0]))]) [0, 1] rfl
                  have hD9 := hD.sub (ws' := [(h0, .inr (7, [.ref bo, .ref l1, .ref l2, .int 0, .ref l3, .int 0, .ref l4, .ref l5, .ref l6, .int 0, .int 0, .int 0, .int 0])), (bo, .inr (1, [.ref b0, .int 0, .ref b1, .int 0, .ref b2, .int 0, .ref b3, .int 0]))]) [0, 1] (by decide) rfl
                  have hK9 := hK.sub (tys' := []) [] rfl
                  exact W.zret (v := 0) hx hb hr (by decide) (fun t ht hW => ⟨⟨0, 0, rfl, rfl, ⟨rfl, by rw [ht]; exact hP9, va_K.moved hW.alike hK9, hD9⟩⟩, hS.F ht⟩) hS.2.2 dX7_listPieces_64
              · refine lv_aload_n hx hb dX7_listPieces_22 rfl (lv_at hl 1 rfl) ?_
                refine va_get (D := (dC, dI)) (ci := 7) (v := .ref bo) (C := RX7) (T := TX7) (N := 13) hx hb hts (fun _ hh => (List.mem_cons_of_mem _ (List.mem_append_right _ (List.mem_append_left _ hh)))) hown hK hP 0 rfl rfl 0 (by decide) (hts (.fieldLink RX7 27 "TypingPool$Planner" "book" "LTypingPool$Book;") (List.mem_cons_of_mem _ (List.mem_append_left _ (List.mem_of_getElem? (i := 1) rfl)))) (fun _ h9 => h9) rfl dX7_listPieces_23 ?_
                refine lv_iload_n hx hb dX7_listPieces_26 rfl (lv_at hl 0 rfl) ?_
                have hPc := hP.sub (ws' := [(bo, .inr (1, [.ref b0, .int 0, .ref b1, .int 0, .ref b2, .int 0, .ref b3, .int 0]))]) [1] rfl
                have hDc := hD.sub (ws' := [(bo, .inr (1, [.ref b0, .int 0, .ref b1, .int 0, .ref b2, .int 0, .ref b3, .int 0]))]) [1] (by decide) rfl
                have hKc := hK.sub (tys' := []) [] rfl
                have hFc := va_free (wc := [(bo, .inr (1, [.ref b0, .int 0, .ref b1, .int 0, .ref b2, .int 0, .ref b3, .int 0]))]) hD hS hA [1] rfl
                refine va_calli (va_runV (As := [.int 6]) (rest := []) ⟨hx, hb, hml, hown, hts⟩ (c_hasPiece0 l dC dI ad av H.size bo b0 b1 b2 b3 6 ) (cwV 1 hts (gi_4 (List.mem_cons_of_mem _ (List.mem_append_left _ (List.mem_of_getElem? (i := 2) rfl))) (List.mem_cons_of_mem _ (List.mem_append_left _ (List.mem_of_getElem? (i := 3) rfl))) (List.mem_cons_of_mem _ (List.mem_append_left _ (List.mem_of_getElem? (i := 4) rfl))) (List.mem_cons_of_mem _ (List.mem_append_left _ (List.mem_of_getElem? (i := 5) rfl))) (fun _ hh => (List.mem_cons_of_mem _ (List.mem_append_right _ (List.mem_append_right _ (List.mem_append_left _ hh))))) gd_c_hasPiece0) rfl rfl rfl (by decide +kernel) ⟨Nat.le_of_ble_eq_true rfl, Nat.le_of_ble_eq_true rfl⟩) ⟨pr_blind, va_recv hKc hPc (ci := 1) (q0 := 0) rfl rfl, pr_use hPc hKc hDc hFc hS hM⟩ rfl rfl hl.1 rfl (lv_room (Nat.le_of_ble_eq_true rfl)) dX7_listPieces_27 ⟨Nat.le_of_ble_eq_true rfl, Nat.le_of_ble_eq_true rfl⟩) hS (fun q _ h => hFc q h) hFc (fun r_231 u t H locs ht hvm hw hB hz1 hk1 hS => ?_)
                refine W.widen (k := 0) (n := 0) (Nat.le_of_ble_eq_true rfl) (Nat.le_of_ble_eq_true rfl) ?_
                subst hw
                obtain ⟨hre_232, hP1, hK1, hD1⟩ := hB
                refine lq_top (v := 0) hre_232 ?_
                rw [ht] at hP1
                have hK1 := va_K.moved hvm.symm hK1
                obtain ⟨hP, hD⟩ := va_join (wr := [(h0, .inr (7, [.ref bo, .ref l1, .ref l2, .int 0, .ref l3, .int 0, .ref l4, .ref l5, .ref l6, .int 0, .int 0, .int 0, .int 0]))]) (w1 := [(bo, .inr (1, [.ref b0, .int 0, .ref b1, .int 0, .ref b2, .int 0, .ref b3, .int 0]))]) hP hD [1] [0] rfl rfl (by decide) (by decide) hk1 hFc hP1 hD1
                have hK := (hK.sub (tys' := []) [] rfl).app hK1
                have hP : va_P (dC, dI) vwCl [(h0, .inr (7, [.ref bo, .ref l1, .ref l2, .int 0, .ref l3, .int 0, .ref l4, .ref l5, .ref l6, .int 0, .int 0, .int 0, .int 0])), (bo, .inr (1, [.ref b0, .int 0, .ref b1, .int 0, .ref b2, .int 0, .ref b3, .int 0]))] H := hP
                have hD : va_D A [(h0, .inr (7, [.ref bo, .ref l1, .ref l2, .int 0, .ref l3, .int 0, .ref l4, .ref l5, .ref l6, .int 0, .int 0, .int 0, .int 0])), (bo, .inr (1, [.ref b0, .int 0, .ref b1, .int 0, .ref b2, .int 0, .ref b3, .int 0]))] := hD
                have hK : va_K (dC, dI) vwCl [] s := hK
                refine lv_if_eq (tgt := 57) hx hb dX7_listPieces_30 (by decide) (fun c_233 => ?_) (fun c_233 => absurd c_233 (fun z => z (by decide)))
                refine lv_iconst (v := 0) hx hb dX7_listPieces_57 (by decide) ?_
                refine lv_istore_n (lv' := [(3, .int 0), (2, .int 6), (0, .ref h0), (1, .int p0)]) hx hb dX7_listPieces_58 rfl hl (by decide) rfl (fun ls hl => ?_)
                refine lv_iload_n hx hb dX7_listPieces_59 rfl (lv_at hl 0 rfl) ?_
                refine lv_if_ne (tgt := 65) hx hb dX7_listPieces_60 (by decide) (fun c_234 => absurd c_234 (fun z => z (by decide))) (fun c_234 => ?_)
                refine lv_iconst (v := 0) hx hb dX7_listPieces_63 (by decide) ?_
                have hP9 := hP.sub (ws' := [(h0, .inr (7, [.ref bo, .ref l1, .ref l2, .int 0, .ref l3, .int 0, .ref l4, .ref l5, .ref l6, .int 0, .int 0, .int 0, .int 0])), (bo, .inr (1, [.ref b0, .int 0, .ref b1, .int 0, .ref b2, .int 0, .ref b3, .int 0]))]) [0, 1] rfl
                have hD9 := hD.sub (ws' := [(h0, .inr (7, [.ref bo, .ref l1, .ref l2, .int 0, .ref l3, .int 0, .ref l4, .ref l5, .ref l6, .int 0, .int 0, .int 0, .int 0])), (bo, .inr (1, [.ref b0, .int 0, .ref b1, .int 0, .ref b2, .int 0, .ref b3, .int 0]))]) [0, 1] (by decide) rfl
                have hK9 := hK.sub (tys' := []) [] rfl
                exact W.zret (v := 0) hx hb hr (by decide) (fun t ht hW => ⟨⟨0, 0, rfl, rfl, ⟨rfl, by rw [ht]; exact hP9, va_K.moved hW.alike hK9, hD9⟩⟩, hS.F ht⟩) hS.2.2 dX7_listPieces_64
            · refine lv_aload_n hx hb dX7_listPieces_22 rfl (lv_at hl 1 rfl) ?_
              refine va_get (D := (dC, dI)) (ci := 7) (v := .ref bo) (C := RX7) (T := TX7) (N := 13) hx hb hts (fun _ hh => (List.mem_cons_of_mem _ (List.mem_append_right _ (List.mem_append_left _ hh)))) hown hK hP 0 rfl rfl 0 (by decide) (hts (.fieldLink RX7 27 "TypingPool$Planner" "book" "LTypingPool$Book;") (List.mem_cons_of_mem _ (List.mem_append_left _ (List.mem_of_getElem? (i := 1) rfl)))) (fun _ h9 => h9) rfl dX7_listPieces_23 ?_
              refine lv_iload_n hx hb dX7_listPieces_26 rfl (lv_at hl 0 rfl) ?_
              have hPc := hP.sub (ws' := [(bo, .inr (1, [.ref b0, .int 0, .ref b1, .int 0, .ref b2, .int 0, .ref b3, .int 0]))]) [1] rfl
              have hDc := hD.sub (ws' := [(bo, .inr (1, [.ref b0, .int 0, .ref b1, .int 0, .ref b2, .int 0, .ref b3, .int 0]))]) [1] (by decide) rfl
              have hKc := hK.sub (tys' := []) [] rfl
              have hFc := va_free (wc := [(bo, .inr (1, [.ref b0, .int 0, .ref b1, .int 0, .ref b2, .int 0, .ref b3, .int 0]))]) hD hS hA [1] rfl
              refine va_calli (va_runV (As := [.int 5]) (rest := []) ⟨hx, hb, hml, hown, hts⟩ (c_hasPiece0 l dC dI ad av H.size bo b0 b1 b2 b3 5 ) (cwV 1 hts (gi_4 (List.mem_cons_of_mem _ (List.mem_append_left _ (List.mem_of_getElem? (i := 2) rfl))) (List.mem_cons_of_mem _ (List.mem_append_left _ (List.mem_of_getElem? (i := 3) rfl))) (List.mem_cons_of_mem _ (List.mem_append_left _ (List.mem_of_getElem? (i := 4) rfl))) (List.mem_cons_of_mem _ (List.mem_append_left _ (List.mem_of_getElem? (i := 5) rfl))) (fun _ hh => (List.mem_cons_of_mem _ (List.mem_append_right _ (List.mem_append_right _ (List.mem_append_left _ hh))))) gd_c_hasPiece0) rfl rfl rfl (by decide +kernel) ⟨Nat.le_of_ble_eq_true rfl, Nat.le_of_ble_eq_true rfl⟩) ⟨pr_blind, va_recv hKc hPc (ci := 1) (q0 := 0) rfl rfl, pr_use hPc hKc hDc hFc hS hM⟩ rfl rfl hl.1 rfl (lv_room (Nat.le_of_ble_eq_true rfl)) dX7_listPieces_27 ⟨Nat.le_of_ble_eq_true rfl, Nat.le_of_ble_eq_true rfl⟩) hS (fun q _ h => hFc q h) hFc (fun r_235 u t H locs ht hvm hw hB hz1 hk1 hS => ?_)
              refine W.widen (k := 0) (n := 0) (Nat.le_of_ble_eq_true rfl) (Nat.le_of_ble_eq_true rfl) ?_
              subst hw
              obtain ⟨hre_236, hP1, hK1, hD1⟩ := hB
              refine lq_top (v := 0) hre_236 ?_
              rw [ht] at hP1
              have hK1 := va_K.moved hvm.symm hK1
              obtain ⟨hP, hD⟩ := va_join (wr := [(h0, .inr (7, [.ref bo, .ref l1, .ref l2, .int 0, .ref l3, .int 0, .ref l4, .ref l5, .ref l6, .int 0, .int 0, .int 0, .int 0]))]) (w1 := [(bo, .inr (1, [.ref b0, .int 0, .ref b1, .int 0, .ref b2, .int 0, .ref b3, .int 0]))]) hP hD [1] [0] rfl rfl (by decide) (by decide) hk1 hFc hP1 hD1
              have hK := (hK.sub (tys' := []) [] rfl).app hK1
              have hP : va_P (dC, dI) vwCl [(h0, .inr (7, [.ref bo, .ref l1, .ref l2, .int 0, .ref l3, .int 0, .ref l4, .ref l5, .ref l6, .int 0, .int 0, .int 0, .int 0])), (bo, .inr (1, [.ref b0, .int 0, .ref b1, .int 0, .ref b2, .int 0, .ref b3, .int 0]))] H := hP
              have hD : va_D A [(h0, .inr (7, [.ref bo, .ref l1, .ref l2, .int 0, .ref l3, .int 0, .ref l4, .ref l5, .ref l6, .int 0, .int 0, .int 0, .int 0])), (bo, .inr (1, [.ref b0, .int 0, .ref b1, .int 0, .ref b2, .int 0, .ref b3, .int 0]))] := hD
              have hK : va_K (dC, dI) vwCl [] s := hK
              refine lv_if_eq (tgt := 57) hx hb dX7_listPieces_30 (by decide) (fun c_237 => ?_) (fun c_237 => absurd c_237 (fun z => z (by decide)))
              refine lv_iconst (v := 0) hx hb dX7_listPieces_57 (by decide) ?_
              refine lv_istore_n (lv' := [(3, .int 0), (2, .int 5), (0, .ref h0), (1, .int p0)]) hx hb dX7_listPieces_58 rfl hl (by decide) rfl (fun ls hl => ?_)
              refine lv_iload_n hx hb dX7_listPieces_59 rfl (lv_at hl 0 rfl) ?_
              refine lv_if_ne (tgt := 65) hx hb dX7_listPieces_60 (by decide) (fun c_238 => absurd c_238 (fun z => z (by decide))) (fun c_238 => ?_)
              refine lv_iconst (v := 0) hx hb dX7_listPieces_63 (by decide) ?_
              have hP9 := hP.sub (ws' := [(h0, .inr (7, [.ref bo, .ref l1, .ref l2, .int 0, .ref l3, .int 0, .ref l4, .ref l5, .ref l6, .int 0, .int 0, .int 0, .int 0])), (bo, .inr (1, [.ref b0, .int 0, .ref b1, .int 0, .ref b2, .int 0, .ref b3, .int 0]))]) [0, 1] rfl
              have hD9 := hD.sub (ws' := [(h0, .inr (7, [.ref bo, .ref l1, .ref l2, .int 0, .ref l3, .int 0, .ref l4, .ref l5, .ref l6, .int 0, .int 0, .int 0, .int 0])), (bo, .inr (1, [.ref b0, .int 0, .ref b1, .int 0, .ref b2, .int 0, .ref b3, .int 0]))]) [0, 1] (by decide) rfl
              have hK9 := hK.sub (tys' := []) [] rfl
              exact W.zret (v := 0) hx hb hr (by decide) (fun t ht hW => ⟨⟨0, 0, rfl, rfl, ⟨rfl, by rw [ht]; exact hP9, va_K.moved hW.alike hK9, hD9⟩⟩, hS.F ht⟩) hS.2.2 dX7_listPieces_64
          · refine lv_aload_n hx hb dX7_listPieces_22 rfl (lv_at hl 1 rfl) ?_
            refine va_get (D := (dC, dI)) (ci := 7) (v := .ref bo) (C := RX7) (T := TX7) (N := 13) hx hb hts (fun _ hh => (List.mem_cons_of_mem _ (List.mem_append_right _ (List.mem_append_left _ hh)))) hown hK hP 0 rfl rfl 0 (by decide) (hts (.fieldLink RX7 27 "TypingPool$Planner" "book" "LTypingPool$Book;") (List.mem_cons_of_mem _ (List.mem_append_left _ (List.mem_of_getElem? (i := 1) rfl)))) (fun _ h9 => h9) rfl dX7_listPieces_23 ?_
            refine lv_iload_n hx hb dX7_listPieces_26 rfl (lv_at hl 0 rfl) ?_
            have hPc := hP.sub (ws' := [(bo, .inr (1, [.ref b0, .int 0, .ref b1, .int 0, .ref b2, .int 0, .ref b3, .int 0]))]) [1] rfl
            have hDc := hD.sub (ws' := [(bo, .inr (1, [.ref b0, .int 0, .ref b1, .int 0, .ref b2, .int 0, .ref b3, .int 0]))]) [1] (by decide) rfl
            have hKc := hK.sub (tys' := []) [] rfl
            have hFc := va_free (wc := [(bo, .inr (1, [.ref b0, .int 0, .ref b1, .int 0, .ref b2, .int 0, .ref b3, .int 0]))]) hD hS hA [1] rfl
            refine va_calli (va_runV (As := [.int 4]) (rest := []) ⟨hx, hb, hml, hown, hts⟩ (c_hasPiece0 l dC dI ad av H.size bo b0 b1 b2 b3 4 ) (cwV 1 hts (gi_4 (List.mem_cons_of_mem _ (List.mem_append_left _ (List.mem_of_getElem? (i := 2) rfl))) (List.mem_cons_of_mem _ (List.mem_append_left _ (List.mem_of_getElem? (i := 3) rfl))) (List.mem_cons_of_mem _ (List.mem_append_left _ (List.mem_of_getElem? (i := 4) rfl))) (List.mem_cons_of_mem _ (List.mem_append_left _ (List.mem_of_getElem? (i := 5) rfl))) (fun _ hh => (List.mem_cons_of_mem _ (List.mem_append_right _ (List.mem_append_right _ (List.mem_append_left _ hh))))) gd_c_hasPiece0) rfl rfl rfl (by decide +kernel) ⟨Nat.le_of_ble_eq_true rfl, Nat.le_of_ble_eq_true rfl⟩) ⟨pr_blind, va_recv hKc hPc (ci := 1) (q0 := 0) rfl rfl, pr_use hPc hKc hDc hFc hS hM⟩ rfl rfl hl.1 rfl (lv_room (Nat.le_of_ble_eq_true rfl)) dX7_listPieces_27 ⟨Nat.le_of_ble_eq_true rfl, Nat.le_of_ble_eq_true rfl⟩) hS (fun q _ h => hFc q h) hFc (fun r_239 u t H locs ht hvm hw hB hz1 hk1 hS => ?_)
            refine W.widen (k := 0) (n := 0) (Nat.le_of_ble_eq_true rfl) (Nat.le_of_ble_eq_true rfl) ?_
            subst hw
            obtain ⟨hre_240, hP1, hK1, hD1⟩ := hB
            refine lq_top (v := 0) hre_240 ?_
            rw [ht] at hP1
            have hK1 := va_K.moved hvm.symm hK1
            obtain ⟨hP, hD⟩ := va_join (wr := [(h0, .inr (7, [.ref bo, .ref l1, .ref l2, .int 0, .ref l3, .int 0, .ref l4, .ref l5, .ref l6, .int 0, .int 0, .int 0, .int 0]))]) (w1 := [(bo, .inr (1, [.ref b0, .int 0, .ref b1, .int 0, .ref b2, .int 0, .ref b3, .int 0]))]) hP hD [1] [0] rfl rfl (by decide) (by decide) hk1 hFc hP1 hD1
            have hK := (hK.sub (tys' := []) [] rfl).app hK1
            have hP : va_P (dC, dI) vwCl [(h0, .inr (7, [.ref bo, .ref l1, .ref l2, .int 0, .ref l3, .int 0, .ref l4, .ref l5, .ref l6, .int 0, .int 0, .int 0, .int 0])), (bo, .inr (1, [.ref b0, .int 0, .ref b1, .int 0, .ref b2, .int 0, .ref b3, .int 0]))] H := hP
            have hD : va_D A [(h0, .inr (7, [.ref bo, .ref l1, .ref l2, .int 0, .ref l3, .int 0, .ref l4, .ref l5, .ref l6, .int 0, .int 0, .int 0, .int 0])), (bo, .inr (1, [.ref b0, .int 0, .ref b1, .int 0, .ref b2, .int 0, .ref b3, .int 0]))] := hD
            have hK : va_K (dC, dI) vwCl [] s := hK
            refine lv_if_eq (tgt := 57) hx hb dX7_listPieces_30 (by decide) (fun c_241 => ?_) (fun c_241 => absurd c_241 (fun z => z (by decide)))
            refine lv_iconst (v := 0) hx hb dX7_listPieces_57 (by decide) ?_
            refine lv_istore_n (lv' := [(3, .int 0), (2, .int 4), (0, .ref h0), (1, .int p0)]) hx hb dX7_listPieces_58 rfl hl (by decide) rfl (fun ls hl => ?_)
            refine lv_iload_n hx hb dX7_listPieces_59 rfl (lv_at hl 0 rfl) ?_
            refine lv_if_ne (tgt := 65) hx hb dX7_listPieces_60 (by decide) (fun c_242 => absurd c_242 (fun z => z (by decide))) (fun c_242 => ?_)
            refine lv_iconst (v := 0) hx hb dX7_listPieces_63 (by decide) ?_
            have hP9 := hP.sub (ws' := [(h0, .inr (7, [.ref bo, .ref l1, .ref l2, .int 0, .ref l3, .int 0, .ref l4, .ref l5, .ref l6, .int 0, .int 0, .int 0, .int 0])), (bo, .inr (1, [.ref b0, .int 0, .ref b1, .int 0, .ref b2, .int 0, .ref b3, .int 0]))]) [0, 1] rfl
            have hD9 := hD.sub (ws' := [(h0, .inr (7, [.ref bo, .ref l1, .ref l2, .int 0, .ref l3, .int 0, .ref l4, .ref l5, .ref l6, .int 0, .int 0, .int 0, .int 0])), (bo, .inr (1, [.ref b0, .int 0, .ref b1, .int 0, .ref b2, .int 0, .ref b3, .int 0]))]) [0, 1] (by decide) rfl
            have hK9 := hK.sub (tys' := []) [] rfl
            exact W.zret (v := 0) hx hb hr (by decide) (fun t ht hW => ⟨⟨0, 0, rfl, rfl, ⟨rfl, by rw [ht]; exact hP9, va_K.moved hW.alike hK9, hD9⟩⟩, hS.F ht⟩) hS.2.2 dX7_listPieces_64
        · refine lv_aload_n hx hb dX7_listPieces_22 rfl (lv_at hl 1 rfl) ?_
          refine va_get (D := (dC, dI)) (ci := 7) (v := .ref bo) (C := RX7) (T := TX7) (N := 13) hx hb hts (fun _ hh => (List.mem_cons_of_mem _ (List.mem_append_right _ (List.mem_append_left _ hh)))) hown hK hP 0 rfl rfl 0 (by decide) (hts (.fieldLink RX7 27 "TypingPool$Planner" "book" "LTypingPool$Book;") (List.mem_cons_of_mem _ (List.mem_append_left _ (List.mem_of_getElem? (i := 1) rfl)))) (fun _ h9 => h9) rfl dX7_listPieces_23 ?_
          refine lv_iload_n hx hb dX7_listPieces_26 rfl (lv_at hl 0 rfl) ?_
          have hPc := hP.sub (ws' := [(bo, .inr (1, [.ref b0, .int 0, .ref b1, .int 0, .ref b2, .int 0, .ref b3, .int 0]))]) [1] rfl
          have hDc := hD.sub (ws' := [(bo, .inr (1, [.ref b0, .int 0, .ref b1, .int 0, .ref b2, .int 0, .ref b3, .int 0]))]) [1] (by decide) rfl
          have hKc := hK.sub (tys' := []) [] rfl
          have hFc := va_free (wc := [(bo, .inr (1, [.ref b0, .int 0, .ref b1, .int 0, .ref b2, .int 0, .ref b3, .int 0]))]) hD hS hA [1] rfl
          refine va_calli (va_runV (As := [.int 3]) (rest := []) ⟨hx, hb, hml, hown, hts⟩ (c_hasPiece0 l dC dI ad av H.size bo b0 b1 b2 b3 3 ) (cwV 1 hts (gi_4 (List.mem_cons_of_mem _ (List.mem_append_left _ (List.mem_of_getElem? (i := 2) rfl))) (List.mem_cons_of_mem _ (List.mem_append_left _ (List.mem_of_getElem? (i := 3) rfl))) (List.mem_cons_of_mem _ (List.mem_append_left _ (List.mem_of_getElem? (i := 4) rfl))) (List.mem_cons_of_mem _ (List.mem_append_left _ (List.mem_of_getElem? (i := 5) rfl))) (fun _ hh => (List.mem_cons_of_mem _ (List.mem_append_right _ (List.mem_append_right _ (List.mem_append_left _ hh))))) gd_c_hasPiece0) rfl rfl rfl (by decide +kernel) ⟨Nat.le_of_ble_eq_true rfl, Nat.le_of_ble_eq_true rfl⟩) ⟨pr_blind, va_recv hKc hPc (ci := 1) (q0 := 0) rfl rfl, pr_use hPc hKc hDc hFc hS hM⟩ rfl rfl hl.1 rfl (lv_room (Nat.le_of_ble_eq_true rfl)) dX7_listPieces_27 ⟨Nat.le_of_ble_eq_true rfl, Nat.le_of_ble_eq_true rfl⟩) hS (fun q _ h => hFc q h) hFc (fun r_243 u t H locs ht hvm hw hB hz1 hk1 hS => ?_)
          refine W.widen (k := 0) (n := 0) (Nat.le_of_ble_eq_true rfl) (Nat.le_of_ble_eq_true rfl) ?_
          subst hw
          obtain ⟨hre_244, hP1, hK1, hD1⟩ := hB
          refine lq_top (v := 0) hre_244 ?_
          rw [ht] at hP1
          have hK1 := va_K.moved hvm.symm hK1
          obtain ⟨hP, hD⟩ := va_join (wr := [(h0, .inr (7, [.ref bo, .ref l1, .ref l2, .int 0, .ref l3, .int 0, .ref l4, .ref l5, .ref l6, .int 0, .int 0, .int 0, .int 0]))]) (w1 := [(bo, .inr (1, [.ref b0, .int 0, .ref b1, .int 0, .ref b2, .int 0, .ref b3, .int 0]))]) hP hD [1] [0] rfl rfl (by decide) (by decide) hk1 hFc hP1 hD1
          have hK := (hK.sub (tys' := []) [] rfl).app hK1
          have hP : va_P (dC, dI) vwCl [(h0, .inr (7, [.ref bo, .ref l1, .ref l2, .int 0, .ref l3, .int 0, .ref l4, .ref l5, .ref l6, .int 0, .int 0, .int 0, .int 0])), (bo, .inr (1, [.ref b0, .int 0, .ref b1, .int 0, .ref b2, .int 0, .ref b3, .int 0]))] H := hP
          have hD : va_D A [(h0, .inr (7, [.ref bo, .ref l1, .ref l2, .int 0, .ref l3, .int 0, .ref l4, .ref l5, .ref l6, .int 0, .int 0, .int 0, .int 0])), (bo, .inr (1, [.ref b0, .int 0, .ref b1, .int 0, .ref b2, .int 0, .ref b3, .int 0]))] := hD
          have hK : va_K (dC, dI) vwCl [] s := hK
          refine lv_if_eq (tgt := 57) hx hb dX7_listPieces_30 (by decide) (fun c_245 => ?_) (fun c_245 => absurd c_245 (fun z => z (by decide)))
          refine lv_iconst (v := 0) hx hb dX7_listPieces_57 (by decide) ?_
          refine lv_istore_n (lv' := [(3, .int 0), (2, .int 3), (0, .ref h0), (1, .int p0)]) hx hb dX7_listPieces_58 rfl hl (by decide) rfl (fun ls hl => ?_)
          refine lv_iload_n hx hb dX7_listPieces_59 rfl (lv_at hl 0 rfl) ?_
          refine lv_if_ne (tgt := 65) hx hb dX7_listPieces_60 (by decide) (fun c_246 => absurd c_246 (fun z => z (by decide))) (fun c_246 => ?_)
          refine lv_iconst (v := 0) hx hb dX7_listPieces_63 (by decide) ?_
          have hP9 := hP.sub (ws' := [(h0, .inr (7, [.ref bo, .ref l1, .ref l2, .int 0, .ref l3, .int 0, .ref l4, .ref l5, .ref l6, .int 0, .int 0, .int 0, .int 0])), (bo, .inr (1, [.ref b0, .int 0, .ref b1, .int 0, .ref b2, .int 0, .ref b3, .int 0]))]) [0, 1] rfl
          have hD9 := hD.sub (ws' := [(h0, .inr (7, [.ref bo, .ref l1, .ref l2, .int 0, .ref l3, .int 0, .ref l4, .ref l5, .ref l6, .int 0, .int 0, .int 0, .int 0])), (bo, .inr (1, [.ref b0, .int 0, .ref b1, .int 0, .ref b2, .int 0, .ref b3, .int 0]))]) [0, 1] (by decide) rfl
          have hK9 := hK.sub (tys' := []) [] rfl
          exact W.zret (v := 0) hx hb hr (by decide) (fun t ht hW => ⟨⟨0, 0, rfl, rfl, ⟨rfl, by rw [ht]; exact hP9, va_K.moved hW.alike hK9, hD9⟩⟩, hS.F ht⟩) hS.2.2 dX7_listPieces_64
      · refine lv_aload_n hx hb dX7_listPieces_22 rfl (lv_at hl 1 rfl) ?_
        refine va_get (D := (dC, dI)) (ci := 7) (v := .ref bo) (C := RX7) (T := TX7) (N := 13) hx hb hts (fun _ hh => (List.mem_cons_of_mem _ (List.mem_append_right _ (List.mem_append_left _ hh)))) hown hK hP 0 rfl rfl 0 (by decide) (hts (.fieldLink RX7 27 "TypingPool$Planner" "book" "LTypingPool$Book;") (List.mem_cons_of_mem _ (List.mem_append_left _ (List.mem_of_getElem? (i := 1) rfl)))) (fun _ h9 => h9) rfl dX7_listPieces_23 ?_
        refine lv_iload_n hx hb dX7_listPieces_26 rfl (lv_at hl 0 rfl) ?_
        have hPc := hP.sub (ws' := [(bo, .inr (1, [.ref b0, .int 0, .ref b1, .int 0, .ref b2, .int 0, .ref b3, .int 0]))]) [1] rfl
        have hDc := hD.sub (ws' := [(bo, .inr (1, [.ref b0, .int 0, .ref b1, .int 0, .ref b2, .int 0, .ref b3, .int 0]))]) [1] (by decide) rfl
        have hKc := hK.sub (tys' := []) [] rfl
        have hFc := va_free (wc := [(bo, .inr (1, [.ref b0, .int 0, .ref b1, .int 0, .ref b2, .int 0, .ref b3, .int 0]))]) hD hS hA [1] rfl
        refine va_calli (va_runV (As := [.int 2]) (rest := []) ⟨hx, hb, hml, hown, hts⟩ (c_hasPiece0 l dC dI ad av H.size bo b0 b1 b2 b3 2 ) (cwV 1 hts (gi_4 (List.mem_cons_of_mem _ (List.mem_append_left _ (List.mem_of_getElem? (i := 2) rfl))) (List.mem_cons_of_mem _ (List.mem_append_left _ (List.mem_of_getElem? (i := 3) rfl))) (List.mem_cons_of_mem _ (List.mem_append_left _ (List.mem_of_getElem? (i := 4) rfl))) (List.mem_cons_of_mem _ (List.mem_append_left _ (List.mem_of_getElem? (i := 5) rfl))) (fun _ hh => (List.mem_cons_of_mem _ (List.mem_append_right _ (List.mem_append_right _ (List.mem_append_left _ hh))))) gd_c_hasPiece0) rfl rfl rfl (by decide +kernel) ⟨Nat.le_of_ble_eq_true rfl, Nat.le_of_ble_eq_true rfl⟩) ⟨pr_blind, va_recv hKc hPc (ci := 1) (q0 := 0) rfl rfl, pr_use hPc hKc hDc hFc hS hM⟩ rfl rfl hl.1 rfl (lv_room (Nat.le_of_ble_eq_true rfl)) dX7_listPieces_27 ⟨Nat.le_of_ble_eq_true rfl, Nat.le_of_ble_eq_true rfl⟩) hS (fun q _ h => hFc q h) hFc (fun r_247 u t H locs ht hvm hw hB hz1 hk1 hS => ?_)
        refine W.widen (k := 0) (n := 0) (Nat.le_of_ble_eq_true rfl) (Nat.le_of_ble_eq_true rfl) ?_
        subst hw
        obtain ⟨hre_248, hP1, hK1, hD1⟩ := hB
        refine lq_top (v := 0) hre_248 ?_
        rw [ht] at hP1
        have hK1 := va_K.moved hvm.symm hK1
        obtain ⟨hP, hD⟩ := va_join (wr := [(h0, .inr (7, [.ref bo, .ref l1, .ref l2, .int 0, .ref l3, .int 0, .ref l4, .ref l5, .ref l6, .int 0, .int 0, .int 0, .int 0]))]) (w1 := [(bo, .inr (1, [.ref b0, .int 0, .ref b1, .int 0, .ref b2, .int 0, .ref b3, .int 0]))]) hP hD [1] [0] rfl rfl (by decide) (by decide) hk1 hFc hP1 hD1
        have hK := (hK.sub (tys' := []) [] rfl).app hK1
        have hP : va_P (dC, dI) vwCl [(h0, .inr (7, [.ref bo, .ref l1, .ref l2, .int 0, .ref l3, .int 0, .ref l4, .ref l5, .ref l6, .int 0, .int 0, .int 0, .int 0])), (bo, .inr (1, [.ref b0, .int 0, .ref b1, .int 0, .ref b2, .int 0, .ref b3, .int 0]))] H := hP
        have hD : va_D A [(h0, .inr (7, [.ref bo, .ref l1, .ref l2, .int 0, .ref l3, .int 0, .ref l4, .ref l5, .ref l6, .int 0, .int 0, .int 0, .int 0])), (bo, .inr (1, [.ref b0, .int 0, .ref b1, .int 0, .ref b2, .int 0, .ref b3, .int 0]))] := hD
        have hK : va_K (dC, dI) vwCl [] s := hK
        refine lv_if_eq (tgt := 57) hx hb dX7_listPieces_30 (by decide) (fun c_249 => ?_) (fun c_249 => absurd c_249 (fun z => z (by decide)))
        refine lv_iconst (v := 0) hx hb dX7_listPieces_57 (by decide) ?_
        refine lv_istore_n (lv' := [(3, .int 0), (2, .int 2), (0, .ref h0), (1, .int p0)]) hx hb dX7_listPieces_58 rfl hl (by decide) rfl (fun ls hl => ?_)
        refine lv_iload_n hx hb dX7_listPieces_59 rfl (lv_at hl 0 rfl) ?_
        refine lv_if_ne (tgt := 65) hx hb dX7_listPieces_60 (by decide) (fun c_250 => absurd c_250 (fun z => z (by decide))) (fun c_250 => ?_)
        refine lv_iconst (v := 0) hx hb dX7_listPieces_63 (by decide) ?_
        have hP9 := hP.sub (ws' := [(h0, .inr (7, [.ref bo, .ref l1, .ref l2, .int 0, .ref l3, .int 0, .ref l4, .ref l5, .ref l6, .int 0, .int 0, .int 0, .int 0])), (bo, .inr (1, [.ref b0, .int 0, .ref b1, .int 0, .ref b2, .int 0, .ref b3, .int 0]))]) [0, 1] rfl
        have hD9 := hD.sub (ws' := [(h0, .inr (7, [.ref bo, .ref l1, .ref l2, .int 0, .ref l3, .int 0, .ref l4, .ref l5, .ref l6, .int 0, .int 0, .int 0, .int 0])), (bo, .inr (1, [.ref b0, .int 0, .ref b1, .int 0, .ref b2, .int 0, .ref b3, .int 0]))]) [0, 1] (by decide) rfl
        have hK9 := hK.sub (tys' := []) [] rfl
        exact W.zret (v := 0) hx hb hr (by decide) (fun t ht hW => ⟨⟨0, 0, rfl, rfl, ⟨rfl, by rw [ht]; exact hP9, va_K.moved hW.alike hK9, hD9⟩⟩, hS.F ht⟩) hS.2.2 dX7_listPieces_64
    · refine lv_aload_n hx hb dX7_listPieces_22 rfl (lv_at hl 1 rfl) ?_
      refine va_get (D := (dC, dI)) (ci := 7) (v := .ref bo) (C := RX7) (T := TX7) (N := 13) hx hb hts (fun _ hh => (List.mem_cons_of_mem _ (List.mem_append_right _ (List.mem_append_left _ hh)))) hown hK hP 0 rfl rfl 0 (by decide) (hts (.fieldLink RX7 27 "TypingPool$Planner" "book" "LTypingPool$Book;") (List.mem_cons_of_mem _ (List.mem_append_left _ (List.mem_of_getElem? (i := 1) rfl)))) (fun _ h9 => h9) rfl dX7_listPieces_23 ?_
      refine lv_iload_n hx hb dX7_listPieces_26 rfl (lv_at hl 0 rfl) ?_
      have hPc := hP.sub (ws' := [(bo, .inr (1, [.ref b0, .int 0, .ref b1, .int 0, .ref b2, .int 0, .ref b3, .int 0]))]) [1] rfl
      have hDc := hD.sub (ws' := [(bo, .inr (1, [.ref b0, .int 0, .ref b1, .int 0, .ref b2, .int 0, .ref b3, .int 0]))]) [1] (by decide) rfl
      have hKc := hK.sub (tys' := []) [] rfl
      have hFc := va_free (wc := [(bo, .inr (1, [.ref b0, .int 0, .ref b1, .int 0, .ref b2, .int 0, .ref b3, .int 0]))]) hD hS hA [1] rfl
      refine va_calli (va_runV (As := [.int 1]) (rest := []) ⟨hx, hb, hml, hown, hts⟩ (c_hasPiece0 l dC dI ad av H.size bo b0 b1 b2 b3 1 ) (cwV 1 hts (gi_4 (List.mem_cons_of_mem _ (List.mem_append_left _ (List.mem_of_getElem? (i := 2) rfl))) (List.mem_cons_of_mem _ (List.mem_append_left _ (List.mem_of_getElem? (i := 3) rfl))) (List.mem_cons_of_mem _ (List.mem_append_left _ (List.mem_of_getElem? (i := 4) rfl))) (List.mem_cons_of_mem _ (List.mem_append_left _ (List.mem_of_getElem? (i := 5) rfl))) (fun _ hh => (List.mem_cons_of_mem _ (List.mem_append_right _ (List.mem_append_right _ (List.mem_append_left _ hh))))) gd_c_hasPiece0) rfl rfl rfl (by decide +kernel) ⟨Nat.le_of_ble_eq_true rfl, Nat.le_of_ble_eq_true rfl⟩) ⟨pr_blind, va_recv hKc hPc (ci := 1) (q0 := 0) rfl rfl, pr_use hPc hKc hDc hFc hS hM⟩ rfl rfl hl.1 rfl (lv_room (Nat.le_of_ble_eq_true rfl)) dX7_listPieces_27 ⟨Nat.le_of_ble_eq_true rfl, Nat.le_of_ble_eq_true rfl⟩) hS (fun q _ h => hFc q h) hFc (fun r_251 u t H locs ht hvm hw hB hz1 hk1 hS => ?_)
      refine W.widen (k := 0) (n := 0) (Nat.le_of_ble_eq_true rfl) (Nat.le_of_ble_eq_true rfl) ?_
      subst hw
      obtain ⟨hre_252, hP1, hK1, hD1⟩ := hB
      refine lq_top (v := 0) hre_252 ?_
      rw [ht] at hP1
      have hK1 := va_K.moved hvm.symm hK1
      obtain ⟨hP, hD⟩ := va_join (wr := [(h0, .inr (7, [.ref bo, .ref l1, .ref l2, .int 0, .ref l3, .int 0, .ref l4, .ref l5, .ref l6, .int 0, .int 0, .int 0, .int 0]))]) (w1 := [(bo, .inr (1, [.ref b0, .int 0, .ref b1, .int 0, .ref b2, .int 0, .ref b3, .int 0]))]) hP hD [1] [0] rfl rfl (by decide) (by decide) hk1 hFc hP1 hD1
      have hK := (hK.sub (tys' := []) [] rfl).app hK1
      have hP : va_P (dC, dI) vwCl [(h0, .inr (7, [.ref bo, .ref l1, .ref l2, .int 0, .ref l3, .int 0, .ref l4, .ref l5, .ref l6, .int 0, .int 0, .int 0, .int 0])), (bo, .inr (1, [.ref b0, .int 0, .ref b1, .int 0, .ref b2, .int 0, .ref b3, .int 0]))] H := hP
      have hD : va_D A [(h0, .inr (7, [.ref bo, .ref l1, .ref l2, .int 0, .ref l3, .int 0, .ref l4, .ref l5, .ref l6, .int 0, .int 0, .int 0, .int 0])), (bo, .inr (1, [.ref b0, .int 0, .ref b1, .int 0, .ref b2, .int 0, .ref b3, .int 0]))] := hD
      have hK : va_K (dC, dI) vwCl [] s := hK
      refine lv_if_eq (tgt := 57) hx hb dX7_listPieces_30 (by decide) (fun c_253 => ?_) (fun c_253 => absurd c_253 (fun z => z (by decide)))
      refine lv_iconst (v := 0) hx hb dX7_listPieces_57 (by decide) ?_
      refine lv_istore_n (lv' := [(3, .int 0), (2, .int 1), (0, .ref h0), (1, .int p0)]) hx hb dX7_listPieces_58 rfl hl (by decide) rfl (fun ls hl => ?_)
      refine lv_iload_n hx hb dX7_listPieces_59 rfl (lv_at hl 0 rfl) ?_
      refine lv_if_ne (tgt := 65) hx hb dX7_listPieces_60 (by decide) (fun c_254 => absurd c_254 (fun z => z (by decide))) (fun c_254 => ?_)
      refine lv_iconst (v := 0) hx hb dX7_listPieces_63 (by decide) ?_
      have hP9 := hP.sub (ws' := [(h0, .inr (7, [.ref bo, .ref l1, .ref l2, .int 0, .ref l3, .int 0, .ref l4, .ref l5, .ref l6, .int 0, .int 0, .int 0, .int 0])), (bo, .inr (1, [.ref b0, .int 0, .ref b1, .int 0, .ref b2, .int 0, .ref b3, .int 0]))]) [0, 1] rfl
      have hD9 := hD.sub (ws' := [(h0, .inr (7, [.ref bo, .ref l1, .ref l2, .int 0, .ref l3, .int 0, .ref l4, .ref l5, .ref l6, .int 0, .int 0, .int 0, .int 0])), (bo, .inr (1, [.ref b0, .int 0, .ref b1, .int 0, .ref b2, .int 0, .ref b3, .int 0]))]) [0, 1] (by decide) rfl
      have hK9 := hK.sub (tys' := []) [] rfl
      exact W.zret (v := 0) hx hb hr (by decide) (fun t ht hW => ⟨⟨0, 0, rfl, rfl, ⟨rfl, by rw [ht]; exact hP9, va_K.moved hW.alike hK9, hD9⟩⟩, hS.F ht⟩) hS.2.2 dX7_listPieces_64
  · refine lv_aload_n hx hb dX7_listPieces_22 rfl (lv_at hl 1 rfl) ?_
    refine va_get (D := (dC, dI)) (ci := 7) (v := .ref bo) (C := RX7) (T := TX7) (N := 13) hx hb hts (fun _ hh => (List.mem_cons_of_mem _ (List.mem_append_right _ (List.mem_append_left _ hh)))) hown hK hP 0 rfl rfl 0 (by decide) (hts (.fieldLink RX7 27 "TypingPool$Planner" "book" "LTypingPool$Book;") (List.mem_cons_of_mem _ (List.mem_append_left _ (List.mem_of_getElem? (i := 1) rfl)))) (fun _ h9 => h9) rfl dX7_listPieces_23 ?_
    refine lv_iload_n hx hb dX7_listPieces_26 rfl (lv_at hl 0 rfl) ?_
    have hPc := hP.sub (ws' := [(bo, .inr (1, [.ref b0, .int 0, .ref b1, .int 0, .ref b2, .int 0, .ref b3, .int 0]))]) [1] rfl
    have hDc := hD.sub (ws' := [(bo, .inr (1, [.ref b0, .int 0, .ref b1, .int 0, .ref b2, .int 0, .ref b3, .int 0]))]) [1] (by decide) rfl
    have hKc := hK.sub (tys' := []) [] rfl
    have hFc := va_free (wc := [(bo, .inr (1, [.ref b0, .int 0, .ref b1, .int 0, .ref b2, .int 0, .ref b3, .int 0]))]) hD hS hA [1] rfl
    refine va_calli (va_runV (As := [.int 0]) (rest := []) ⟨hx, hb, hml, hown, hts⟩ (c_hasPiece0 l dC dI ad av H.size bo b0 b1 b2 b3 0 ) (cwV 1 hts (gi_4 (List.mem_cons_of_mem _ (List.mem_append_left _ (List.mem_of_getElem? (i := 2) rfl))) (List.mem_cons_of_mem _ (List.mem_append_left _ (List.mem_of_getElem? (i := 3) rfl))) (List.mem_cons_of_mem _ (List.mem_append_left _ (List.mem_of_getElem? (i := 4) rfl))) (List.mem_cons_of_mem _ (List.mem_append_left _ (List.mem_of_getElem? (i := 5) rfl))) (fun _ hh => (List.mem_cons_of_mem _ (List.mem_append_right _ (List.mem_append_right _ (List.mem_append_left _ hh))))) gd_c_hasPiece0) rfl rfl rfl (by decide +kernel) ⟨Nat.le_of_ble_eq_true rfl, Nat.le_of_ble_eq_true rfl⟩) ⟨pr_blind, va_recv hKc hPc (ci := 1) (q0 := 0) rfl rfl, pr_use hPc hKc hDc hFc hS hM⟩ rfl rfl hl.1 rfl (lv_room (Nat.le_of_ble_eq_true rfl)) dX7_listPieces_27 ⟨Nat.le_of_ble_eq_true rfl, Nat.le_of_ble_eq_true rfl⟩) hS (fun q _ h => hFc q h) hFc (fun r_255 u t H locs ht hvm hw hB hz1 hk1 hS => ?_)
    refine W.widen (k := 0) (n := 0) (Nat.le_of_ble_eq_true rfl) (Nat.le_of_ble_eq_true rfl) ?_
    subst hw
    obtain ⟨hre_256, hP1, hK1, hD1⟩ := hB
    refine lq_top (v := 0) hre_256 ?_
    rw [ht] at hP1
    have hK1 := va_K.moved hvm.symm hK1
    obtain ⟨hP, hD⟩ := va_join (wr := [(h0, .inr (7, [.ref bo, .ref l1, .ref l2, .int 0, .ref l3, .int 0, .ref l4, .ref l5, .ref l6, .int 0, .int 0, .int 0, .int 0]))]) (w1 := [(bo, .inr (1, [.ref b0, .int 0, .ref b1, .int 0, .ref b2, .int 0, .ref b3, .int 0]))]) hP hD [1] [0] rfl rfl (by decide) (by decide) hk1 hFc hP1 hD1
    have hK := (hK.sub (tys' := []) [] rfl).app hK1
    have hP : va_P (dC, dI) vwCl [(h0, .inr (7, [.ref bo, .ref l1, .ref l2, .int 0, .ref l3, .int 0, .ref l4, .ref l5, .ref l6, .int 0, .int 0, .int 0, .int 0])), (bo, .inr (1, [.ref b0, .int 0, .ref b1, .int 0, .ref b2, .int 0, .ref b3, .int 0]))] H := hP
    have hD : va_D A [(h0, .inr (7, [.ref bo, .ref l1, .ref l2, .int 0, .ref l3, .int 0, .ref l4, .ref l5, .ref l6, .int 0, .int 0, .int 0, .int 0])), (bo, .inr (1, [.ref b0, .int 0, .ref b1, .int 0, .ref b2, .int 0, .ref b3, .int 0]))] := hD
    have hK : va_K (dC, dI) vwCl [] s := hK
    refine lv_if_eq (tgt := 57) hx hb dX7_listPieces_30 (by decide) (fun c_257 => ?_) (fun c_257 => absurd c_257 (fun z => z (by decide)))
    refine lv_iconst (v := 0) hx hb dX7_listPieces_57 (by decide) ?_
    refine lv_istore_n (lv' := [(3, .int 0), (2, .int 0), (0, .ref h0), (1, .int p0)]) hx hb dX7_listPieces_58 rfl hl (by decide) rfl (fun ls hl => ?_)
    refine lv_iload_n hx hb dX7_listPieces_59 rfl (lv_at hl 0 rfl) ?_
    refine lv_if_ne (tgt := 65) hx hb dX7_listPieces_60 (by decide) (fun c_258 => absurd c_258 (fun z => z (by decide))) (fun c_258 => ?_)
    refine lv_iconst (v := 0) hx hb dX7_listPieces_63 (by decide) ?_
    have hP9 := hP.sub (ws' := [(h0, .inr (7, [.ref bo, .ref l1, .ref l2, .int 0, .ref l3, .int 0, .ref l4, .ref l5, .ref l6, .int 0, .int 0, .int 0, .int 0])), (bo, .inr (1, [.ref b0, .int 0, .ref b1, .int 0, .ref b2, .int 0, .ref b3, .int 0]))]) [0, 1] rfl
    have hD9 := hD.sub (ws' := [(h0, .inr (7, [.ref bo, .ref l1, .ref l2, .int 0, .ref l3, .int 0, .ref l4, .ref l5, .ref l6, .int 0, .int 0, .int 0, .int 0])), (bo, .inr (1, [.ref b0, .int 0, .ref b1, .int 0, .ref b2, .int 0, .ref b3, .int 0]))]) [0, 1] (by decide) rfl
    have hK9 := hK.sub (tys' := []) [] rfl
    exact W.zret (v := 0) hx hb hr (by decide) (fun t ht hW => ⟨⟨0, 0, rfl, rfl, ⟨rfl, by rw [ht]; exact hP9, va_K.moved hW.alike hK9, hD9⟩⟩, hS.F ht⟩) hS.2.2 dX7_listPieces_64
def wo_c_seek0 : List Cond := [.methodLink RX7 35 yX7_listPieces, .instanceMethod yX7_listPieces, .selects RX7 yX7_listPieces yX7_listPieces, .initialized RX7]
def wm_c_seek0 : List Cond := .code yX7_seek cX7_seek 4 (some .int) :: (wo_c_seek0 ++ (wm_c_listPieces0 ++ ([] : List Cond)))
theorem gd_c_seek0 : ∀ w ∈ wm_c_seek0, goodWord w = true := gd_c rfl (gd_a (by decide) (gd_a gd_c_listPieces0 gd_nil))
set_option maxRecDepth 20000 in
theorem im_c_seek0 : ∀ w ∈ wm_c_seek0, w ∈ lw_tbl := im_c (in_r [.code yX7_seek cX7_seek 4 (some .int)] [1022] (by decide +kernel)) (in_app (in_r wo_c_seek0 [1023, 1025, 18, 85] (by decide +kernel)) (in_app im_c_listPieces0 im_nil))
set_option maxHeartbeats 4000000 in
set_option maxRecDepth 100000 in
theorem c_seek0 (l : Launch) (dC : Nat → ClassId) (dI : Nat → Nat → Nat) (ad av : Nat → Nat) (sz : Nat) (h0 : Nat) (bo : Nat) (l1 : Nat) (l2 : Nat) (l3 : Nat) (l4 : Nat) (l5 : Nat) (l6 : Nat) (b0 : Nat) (b1 : Nat) (b2 : Nat) (b3 : Nat) (p0 : Int32) (p1 : Int32) : Met l yX7_seek wm_c_seek0 ({ frames := 3, cells := 0, slots := 0, locals := 120 }) (pr_ ad av (dC, dI) sz [.ref h0, .int p0, .int p1] [(h0, .inr (7, [.ref bo, .ref l1, .ref l2, .int 0, .ref l3, .int 0, .ref l4, .ref l5, .ref l6, .int 0, .int 0, .int 0, .int 0])), (bo, .inr (1, [.ref b0, .int 0, .ref b1, .int 0, .ref b2, .int 0, .ref b3, .int 0]))] []) (va_Qi (fun (r u : Int32) => u = r) (fun (r : Int32) (t : State) => (r = (-1) ∧ po_ (dC, dI) (va_A [(h0, .inr (7, [.ref bo, .ref l1, .ref l2, .int 0, .ref l3, .int 0, .ref l4, .ref l5, .ref l6, .int 0, .int 0, .int 0, .int 0])), (bo, .inr (1, [.ref b0, .int 0, .ref b1, .int 0, .ref b2, .int 0, .ref b3, .int 0]))] sz) [(h0, .inr (7, [.ref bo, .ref l1, .ref l2, .int 0, .ref l3, .int 0, .ref l4, .ref l5, .ref l6, .int 0, .int 0, .int 0, .int 0])), (bo, .inr (1, [.ref b0, .int 0, .ref b1, .int 0, .ref b2, .int 0, .ref b3, .int 0]))] [] t)) (va_A [(h0, .inr (7, [.ref bo, .ref l1, .ref l2, .int 0, .ref l3, .int 0, .ref l4, .ref l5, .ref l6, .int 0, .int 0, .int 0, .int 0])), (bo, .inr (1, [.ref b0, .int 0, .ref b1, .int 0, .ref b2, .int 0, .ref b3, .int 0]))] sz)) 0 0 (va_A [(h0, .inr (7, [.ref bo, .ref l1, .ref l2, .int 0, .ref l3, .int 0, .ref l4, .ref l5, .ref l6, .int 0, .int 0, .int 0, .int 0])), (bo, .inr (1, [.ref b0, .int 0, .ref b1, .int 0, .ref b2, .int 0, .ref b3, .int 0]))] sz) := by
  refine Met.ofW (cc := cX7_seek) (maxL := 4) (ret := (some .int)) (by decide) rfl ?_
  intro p e s m args below meth c s₁ B hml hv
  obtain ⟨rfl, hsz, hP, hK, hD0, hM⟩ := hv
  have hx := B.exec
  have hb := B.bytes
  have hr := B.returns
  have hts := atoms_spec (ws := wm_c_seek0) B.pre
  have hown : s.vm.findClass RX7 = some m.cls := findClass_of_methodNamed B.named
  have hlocks := B.notSynchronized
  subst hsz
  have hD := hD0.self (sz := s.heap.size)
  generalize hAe : va_A [(h0, .inr (7, [.ref bo, .ref l1, .ref l2, .int 0, .ref l3, .int 0, .ref l4, .ref l5, .ref l6, .int 0, .int 0, .int 0, .int 0])), (bo, .inr (1, [.ref b0, .int 0, .ref b1, .int 0, .ref b2, .int 0, .ref b3, .int 0]))] s.heap.size = A at hD hM ⊢
  have hA : ∀ q : Nat, s.heap.size ≤ q → A q := fun q h => by rw [← hAe]; exact Or.inr h
  have hS : va_S A s.heap s.heap [] := va_S.rf
  have hP : va_P (dC, dI) vwCl [(h0, .inr (7, [.ref bo, .ref l1, .ref l2, .int 0, .ref l3, .int 0, .ref l4, .ref l5, .ref l6, .int 0, .int 0, .int 0, .int 0])), (bo, .inr (1, [.ref b0, .int 0, .ref b1, .int 0, .ref b2, .int 0, .ref b3, .int 0]))] s.heap := hP
  have hl := lv_entry ([.ref h0, .int p0, .int p1]) (n := 4) (Nat.le_of_ble_eq_true rfl)
  rw [lg_entry_eq]
  generalize (lg_sl ([.ref h0, .int p0, .int p1]) ++ List.replicate (4 - (lg_sl ([.ref h0, .int p0, .int p1])).length) Slot.unset).toArray = ls at hl ⊢
  have hl : lv_has ls 4 [(0, .ref h0), (1, .int p0), (2, .int p1)] := hl
  refine lv_aload_n hx hb dX7_seek_0 rfl (lv_at hl 0 rfl) ?_
  refine lv_iload_n hx hb dX7_seek_1 rfl (lv_at hl 1 rfl) ?_
  have hPc := hP.sub (ws' := [(h0, .inr (7, [.ref bo, .ref l1, .ref l2, .int 0, .ref l3, .int 0, .ref l4, .ref l5, .ref l6, .int 0, .int 0, .int 0, .int 0])), (bo, .inr (1, [.ref b0, .int 0, .ref b1, .int 0, .ref b2, .int 0, .ref b3, .int 0]))]) [0, 1] rfl
  have hDc := hD.sub (ws' := [(h0, .inr (7, [.ref bo, .ref l1, .ref l2, .int 0, .ref l3, .int 0, .ref l4, .ref l5, .ref l6, .int 0, .int 0, .int 0, .int 0])), (bo, .inr (1, [.ref b0, .int 0, .ref b1, .int 0, .ref b2, .int 0, .ref b3, .int 0]))]) [0, 1] (by decide) rfl
  have hKc := hK.sub (tys' := []) [] rfl
  have hFc := va_free (wc := [(h0, .inr (7, [.ref bo, .ref l1, .ref l2, .int 0, .ref l3, .int 0, .ref l4, .ref l5, .ref l6, .int 0, .int 0, .int 0, .int 0])), (bo, .inr (1, [.ref b0, .int 0, .ref b1, .int 0, .ref b2, .int 0, .ref b3, .int 0]))]) hD hS hA [0, 1] rfl
  refine va_calli (va_runV (As := [.int p0]) (rest := []) ⟨hx, hb, hml, hown, hts⟩ (c_listPieces0 l dC dI ad av s.heap.size h0 bo l1 l2 l3 l4 l5 l6 b0 b1 b2 b3 p0 ) (cwV 1 hts (gi_4 (List.mem_cons_of_mem _ (List.mem_append_left _ (List.mem_of_getElem? (i := 0) rfl))) (List.mem_cons_of_mem _ (List.mem_append_left _ (List.mem_of_getElem? (i := 1) rfl))) (List.mem_cons_of_mem _ (List.mem_append_left _ (List.mem_of_getElem? (i := 2) rfl))) (List.mem_cons_of_mem _ (List.mem_append_left _ (List.mem_of_getElem? (i := 3) rfl))) (fun _ hh => (List.mem_cons_of_mem _ (List.mem_append_right _ (List.mem_append_left _ hh)))) gd_c_listPieces0) rfl rfl rfl (by decide +kernel) ⟨Nat.le_of_ble_eq_true rfl, Nat.le_of_ble_eq_true rfl⟩) ⟨pr_blind, va_recv hKc hPc (ci := 7) (q0 := 0) rfl rfl, pr_use hPc hKc hDc hFc hS hM⟩ rfl rfl hl.1 rfl (lv_room (Nat.le_of_ble_eq_true rfl)) dX7_seek_2 ⟨Nat.le_of_ble_eq_true rfl, Nat.le_of_ble_eq_true rfl⟩) hS (fun q _ h => hFc q h) hFc (fun r_259 u t H locs ht hvm hw hB hz1 hk1 hS => ?_)
  refine W.widen (k := 0) (n := 0) (Nat.le_of_ble_eq_true rfl) (Nat.le_of_ble_eq_true rfl) ?_
  subst hw
  obtain ⟨hre_260, hP1, hK1, hD1⟩ := hB
  refine lq_top (v := 0) hre_260 ?_
  rw [ht] at hP1
  have hK1 := va_K.moved hvm.symm hK1
  obtain ⟨hP, hD⟩ := va_join (wr := []) (w1 := [(h0, .inr (7, [.ref bo, .ref l1, .ref l2, .int 0, .ref l3, .int 0, .ref l4, .ref l5, .ref l6, .int 0, .int 0, .int 0, .int 0])), (bo, .inr (1, [.ref b0, .int 0, .ref b1, .int 0, .ref b2, .int 0, .ref b3, .int 0]))]) hP hD [0, 1] [] rfl rfl (by decide) (by decide) hk1 hFc hP1 hD1
  have hK := (hK.sub (tys' := []) [] rfl).app hK1
  have hP : va_P (dC, dI) vwCl [(h0, .inr (7, [.ref bo, .ref l1, .ref l2, .int 0, .ref l3, .int 0, .ref l4, .ref l5, .ref l6, .int 0, .int 0, .int 0, .int 0])), (bo, .inr (1, [.ref b0, .int 0, .ref b1, .int 0, .ref b2, .int 0, .ref b3, .int 0]))] H := hP
  have hD : va_D A [(h0, .inr (7, [.ref bo, .ref l1, .ref l2, .int 0, .ref l3, .int 0, .ref l4, .ref l5, .ref l6, .int 0, .int 0, .int 0, .int 0])), (bo, .inr (1, [.ref b0, .int 0, .ref b1, .int 0, .ref b2, .int 0, .ref b3, .int 0]))] := hD
  have hK : va_K (dC, dI) vwCl [] s := hK
  refine lv_if_eq (tgt := 16) hx hb dX7_seek_5 (by decide) (fun c_261 => ?_) (fun c_261 => absurd c_261 (fun z => z (by decide)))
  refine lv_iconst (v := (-1)) hx hb dX7_seek_16 (by decide) ?_
  have hP9 := hP.sub (ws' := [(h0, .inr (7, [.ref bo, .ref l1, .ref l2, .int 0, .ref l3, .int 0, .ref l4, .ref l5, .ref l6, .int 0, .int 0, .int 0, .int 0])), (bo, .inr (1, [.ref b0, .int 0, .ref b1, .int 0, .ref b2, .int 0, .ref b3, .int 0]))]) [0, 1] rfl
  have hD9 := hD.sub (ws' := [(h0, .inr (7, [.ref bo, .ref l1, .ref l2, .int 0, .ref l3, .int 0, .ref l4, .ref l5, .ref l6, .int 0, .int 0, .int 0, .int 0])), (bo, .inr (1, [.ref b0, .int 0, .ref b1, .int 0, .ref b2, .int 0, .ref b3, .int 0]))]) [0, 1] (by decide) rfl
  have hK9 := hK.sub (tys' := []) [] rfl
  exact W.iret (v := (-1)) hx hb hr (fun t ht hW => ⟨⟨(-1), (-1), rfl, rfl, ⟨rfl, by rw [ht]; exact hP9, va_K.moved hW.alike hK9, hD9⟩⟩, hS.F ht⟩) hS.2.2 dX7_seek_17
def wo_c_lettersOf : List Cond := []
def wm_c_lettersOf : List Cond := .code yX10_lettersOf cX10_lettersOf 1 (some (.object "java/lang/String")) :: (wo_c_lettersOf ++ ([] : List Cond))
theorem gd_c_lettersOf : ∀ w ∈ wm_c_lettersOf, goodWord w = true := gd_c rfl (gd_a (by decide) gd_nil)
set_option maxRecDepth 20000 in
theorem im_c_lettersOf : ∀ w ∈ wm_c_lettersOf, w ∈ lw_tbl := im_c (in_r [.code yX10_lettersOf cX10_lettersOf 1 (some (.object "java/lang/String"))] [250] (by decide +kernel)) (in_app (in_r wo_c_lettersOf [] (by decide +kernel)) im_nil)
set_option maxHeartbeats 4000000 in
set_option maxRecDepth 100000 in
theorem c_lettersOf (l : Launch) (dC : Nat → ClassId) (dI : Nat → Nat → Nat) (ad av : Nat → Nat) (sz : Nat) (p0 : Int32) : Met l yX10_lettersOf wm_c_lettersOf ({ frames := 0, cells := 0, slots := 0, locals := 0 }) (pr_ ad av (dC, dI) sz [.int p0] [] []) (va_Qr (fun (_ : Unit) => True) (fun (_ : Unit) (a : Nat) (t : State) => (∃ (i : Nat), a = (ad i) ∧ 4 ≤ i ∧ i < 8 ∧ po_ (dC, dI) (va_A [] sz) [] [] t)) (va_A [] sz)) 0 0 (va_A [] sz) := by
  refine Met.ofW (cc := cX10_lettersOf) (maxL := 1) (ret := (some (.object "java/lang/String"))) (by decide) rfl ?_
  intro p e s m args below meth c s₁ B hml hv
  obtain ⟨rfl, hsz, hP, hK, hD0, hM⟩ := hv
  have hx := B.exec
  have hb := B.bytes
  have hr := B.returns
  have hts := atoms_spec (ws := wm_c_lettersOf) B.pre
  have hown : s.vm.findClass RX10 = some m.cls := findClass_of_methodNamed B.named
  have hlocks := B.notSynchronized
  subst hsz
  have hD := hD0.self (sz := s.heap.size)
  generalize hAe : va_A [] s.heap.size = A at hD hM ⊢
  have hA : ∀ q : Nat, s.heap.size ≤ q → A q := fun q h => by rw [← hAe]; exact Or.inr h
  have hS : va_S A s.heap s.heap [] := va_S.rf
  have hP : va_P (dC, dI) vwCl [] s.heap := hP
  have hl := lv_entry ([.int p0]) (n := 1) (Nat.le_of_ble_eq_true rfl)
  rw [lg_entry_eq]
  generalize (lg_sl ([.int p0]) ++ List.replicate (1 - (lg_sl ([.int p0])).length) Slot.unset).toArray = ls at hl ⊢
  have hl : lv_has ls 1 [(0, .int p0)] := hl
  refine lv_iload_n hx hb dX10_lettersOf_0 rfl (lv_at hl 0 rfl) ?_
  rcases tb_2 p0 with t_1 | t_1 | t_1 | t_1
  · refine lq_top (v := 0) t_1 ?_
    refine lv_tableIn (tgt := 28) hx hb dX10_lettersOf_1 (by decide) (by decide) (off := 27) (by decide) (by decide) ?_
    refine va_ldcS hx hb hown (hM.2.2.1 4 _ rfl).1 dX10_lettersOf_28 ?_
    have hP9 := hP.sub (ws' := []) [] rfl
    have hD9 := hD.sub (ws' := []) [] (by decide) rfl
    have hK9 := hK.sub (tys' := []) [] rfl
    exact W.aret (v := .ref (ad 4)) hx hb hr (by first | exact Or.inl ⟨_, rfl⟩ | exact Or.inr ⟨_, rfl⟩) (Or.inr ⟨_, rfl⟩) (fun t ht hW => ⟨⟨(), (ad 4), rfl, trivial, ⟨4, rfl, (by decide), (by decide), by rw [ht]; exact hP9, va_K.moved hW.alike hK9, hD9⟩⟩, hS.F ht⟩) hS.2.2 dX10_lettersOf_30
  · refine lq_top (v := 1) t_1 ?_
    refine lv_tableIn (tgt := 31) hx hb dX10_lettersOf_1 (by decide) (by decide) (off := 30) (by decide) (by decide) ?_
    refine va_ldcS hx hb hown (hM.2.2.1 5 _ rfl).1 dX10_lettersOf_31 ?_
    have hP9 := hP.sub (ws' := []) [] rfl
    have hD9 := hD.sub (ws' := []) [] (by decide) rfl
    have hK9 := hK.sub (tys' := []) [] rfl
    exact W.aret (v := .ref (ad 5)) hx hb hr (by first | exact Or.inl ⟨_, rfl⟩ | exact Or.inr ⟨_, rfl⟩) (Or.inr ⟨_, rfl⟩) (fun t ht hW => ⟨⟨(), (ad 5), rfl, trivial, ⟨5, rfl, (by decide), (by decide), by rw [ht]; exact hP9, va_K.moved hW.alike hK9, hD9⟩⟩, hS.F ht⟩) hS.2.2 dX10_lettersOf_33
  · refine lq_top (v := 2) t_1 ?_
    refine lv_tableIn (tgt := 34) hx hb dX10_lettersOf_1 (by decide) (by decide) (off := 33) (by decide) (by decide) ?_
    refine va_ldcS hx hb hown (hM.2.2.1 6 _ rfl).1 dX10_lettersOf_34 ?_
    have hP9 := hP.sub (ws' := []) [] rfl
    have hD9 := hD.sub (ws' := []) [] (by decide) rfl
    have hK9 := hK.sub (tys' := []) [] rfl
    exact W.aret (v := .ref (ad 6)) hx hb hr (by first | exact Or.inl ⟨_, rfl⟩ | exact Or.inr ⟨_, rfl⟩) (Or.inr ⟨_, rfl⟩) (fun t ht hW => ⟨⟨(), (ad 6), rfl, trivial, ⟨6, rfl, (by decide), (by decide), by rw [ht]; exact hP9, va_K.moved hW.alike hK9, hD9⟩⟩, hS.F ht⟩) hS.2.2 dX10_lettersOf_36
  · refine lv_tableOut (tgt := 37) hx hb dX10_lettersOf_1 t_1 (by decide) ?_
    refine va_ldcS hx hb hown (hM.2.2.1 7 _ rfl).1 dX10_lettersOf_37 ?_
    have hP9 := hP.sub (ws' := []) [] rfl
    have hD9 := hD.sub (ws' := []) [] (by decide) rfl
    have hK9 := hK.sub (tys' := []) [] rfl
    exact W.aret (v := .ref (ad 7)) hx hb hr (by first | exact Or.inl ⟨_, rfl⟩ | exact Or.inr ⟨_, rfl⟩) (Or.inr ⟨_, rfl⟩) (fun t ht hW => ⟨⟨(), (ad 7), rfl, trivial, ⟨7, rfl, (by decide), (by decide), by rw [ht]; exact hP9, va_K.moved hW.alike hK9, hD9⟩⟩, hS.F ht⟩) hS.2.2 dX10_lettersOf_39
def wo_c_textAtFirst : List Cond := []
def wm_c_textAtFirst : List Cond := .code yX10_textAtFirst cX10_textAtFirst 1 (some (.object "java/lang/String")) :: (wo_c_textAtFirst ++ ([] : List Cond))
theorem gd_c_textAtFirst : ∀ w ∈ wm_c_textAtFirst, goodWord w = true := gd_c rfl (gd_a (by decide) gd_nil)
set_option maxRecDepth 20000 in
theorem im_c_textAtFirst : ∀ w ∈ wm_c_textAtFirst, w ∈ lw_tbl := im_c (in_r [.code yX10_textAtFirst cX10_textAtFirst 1 (some (.object "java/lang/String"))] [198] (by decide +kernel)) (in_app (in_r wo_c_textAtFirst [] (by decide +kernel)) im_nil)
set_option maxHeartbeats 4000000 in
set_option maxRecDepth 100000 in
theorem c_textAtFirst (l : Launch) (dC : Nat → ClassId) (dI : Nat → Nat → Nat) (ad av : Nat → Nat) (sz : Nat) (p0 : Int32) : Met l yX10_textAtFirst wm_c_textAtFirst ({ frames := 0, cells := 0, slots := 0, locals := 0 }) (pr_ ad av (dC, dI) sz [.int p0] [] []) (va_Qr (fun (_ : Unit) => True) (fun (_ : Unit) (a : Nat) (t : State) => (∃ (i : Nat), a = (ad i) ∧ i < 4 ∧ po_ (dC, dI) (va_A [] sz) [] [] t)) (va_A [] sz)) 0 0 (va_A [] sz) := by
  refine Met.ofW (cc := cX10_textAtFirst) (maxL := 1) (ret := (some (.object "java/lang/String"))) (by decide) rfl ?_
  intro p e s m args below meth c s₁ B hml hv
  obtain ⟨rfl, hsz, hP, hK, hD0, hM⟩ := hv
  have hx := B.exec
  have hb := B.bytes
  have hr := B.returns
  have hts := atoms_spec (ws := wm_c_textAtFirst) B.pre
  have hown : s.vm.findClass RX10 = some m.cls := findClass_of_methodNamed B.named
  have hlocks := B.notSynchronized
  subst hsz
  have hD := hD0.self (sz := s.heap.size)
  generalize hAe : va_A [] s.heap.size = A at hD hM ⊢
  have hA : ∀ q : Nat, s.heap.size ≤ q → A q := fun q h => by rw [← hAe]; exact Or.inr h
  have hS : va_S A s.heap s.heap [] := va_S.rf
  have hP : va_P (dC, dI) vwCl [] s.heap := hP
  have hl := lv_entry ([.int p0]) (n := 1) (Nat.le_of_ble_eq_true rfl)
  rw [lg_entry_eq]
  generalize (lg_sl ([.int p0]) ++ List.replicate (1 - (lg_sl ([.int p0])).length) Slot.unset).toArray = ls at hl ⊢
  have hl : lv_has ls 1 [(0, .int p0)] := hl
  refine lv_iload_n hx hb dX10_textAtFirst_0 rfl (lv_at hl 0 rfl) ?_
  rcases tb_2 p0 with t_2 | t_2 | t_2 | t_2
  · refine lq_top (v := 0) t_2 ?_
    refine lv_tableIn (tgt := 28) hx hb dX10_textAtFirst_1 (by decide) (by decide) (off := 27) (by decide) (by decide) ?_
    refine va_ldcS hx hb hown (hM.2.2.1 0 _ rfl).1 dX10_textAtFirst_28 ?_
    have hP9 := hP.sub (ws' := []) [] rfl
    have hD9 := hD.sub (ws' := []) [] (by decide) rfl
    have hK9 := hK.sub (tys' := []) [] rfl
    exact W.aret (v := .ref (ad 0)) hx hb hr (by first | exact Or.inl ⟨_, rfl⟩ | exact Or.inr ⟨_, rfl⟩) (Or.inr ⟨_, rfl⟩) (fun t ht hW => ⟨⟨(), (ad 0), rfl, trivial, ⟨0, rfl, (by decide), by rw [ht]; exact hP9, va_K.moved hW.alike hK9, hD9⟩⟩, hS.F ht⟩) hS.2.2 dX10_textAtFirst_30
  · refine lq_top (v := 1) t_2 ?_
    refine lv_tableIn (tgt := 31) hx hb dX10_textAtFirst_1 (by decide) (by decide) (off := 30) (by decide) (by decide) ?_
    refine va_ldcS hx hb hown (hM.2.2.1 1 _ rfl).1 dX10_textAtFirst_31 ?_
    have hP9 := hP.sub (ws' := []) [] rfl
    have hD9 := hD.sub (ws' := []) [] (by decide) rfl
    have hK9 := hK.sub (tys' := []) [] rfl
    exact W.aret (v := .ref (ad 1)) hx hb hr (by first | exact Or.inl ⟨_, rfl⟩ | exact Or.inr ⟨_, rfl⟩) (Or.inr ⟨_, rfl⟩) (fun t ht hW => ⟨⟨(), (ad 1), rfl, trivial, ⟨1, rfl, (by decide), by rw [ht]; exact hP9, va_K.moved hW.alike hK9, hD9⟩⟩, hS.F ht⟩) hS.2.2 dX10_textAtFirst_33
  · refine lq_top (v := 2) t_2 ?_
    refine lv_tableIn (tgt := 34) hx hb dX10_textAtFirst_1 (by decide) (by decide) (off := 33) (by decide) (by decide) ?_
    refine va_ldcS hx hb hown (hM.2.2.1 2 _ rfl).1 dX10_textAtFirst_34 ?_
    have hP9 := hP.sub (ws' := []) [] rfl
    have hD9 := hD.sub (ws' := []) [] (by decide) rfl
    have hK9 := hK.sub (tys' := []) [] rfl
    exact W.aret (v := .ref (ad 2)) hx hb hr (by first | exact Or.inl ⟨_, rfl⟩ | exact Or.inr ⟨_, rfl⟩) (Or.inr ⟨_, rfl⟩) (fun t ht hW => ⟨⟨(), (ad 2), rfl, trivial, ⟨2, rfl, (by decide), by rw [ht]; exact hP9, va_K.moved hW.alike hK9, hD9⟩⟩, hS.F ht⟩) hS.2.2 dX10_textAtFirst_36
  · refine lv_tableOut (tgt := 37) hx hb dX10_textAtFirst_1 t_2 (by decide) ?_
    refine va_ldcS hx hb hown (hM.2.2.1 3 _ rfl).1 dX10_textAtFirst_37 ?_
    have hP9 := hP.sub (ws' := []) [] rfl
    have hD9 := hD.sub (ws' := []) [] (by decide) rfl
    have hK9 := hK.sub (tys' := []) [] rfl
    exact W.aret (v := .ref (ad 3)) hx hb hr (by first | exact Or.inl ⟨_, rfl⟩ | exact Or.inr ⟨_, rfl⟩) (Or.inr ⟨_, rfl⟩) (fun t ht hW => ⟨⟨(), (ad 3), rfl, trivial, ⟨3, rfl, (by decide), by rw [ht]; exact hP9, va_K.moved hW.alike hK9, hD9⟩⟩, hS.F ht⟩) hS.2.2 dX10_textAtFirst_39
def wo_c_read0 : List Cond := [.fieldLink RX8 19 "TypingPool$Reader" "codeLength" "I", .fieldLink RX8 23 "TypingPool$Reader" "openLength" "I", .fieldLink RX8 26 "TypingPool$Reader" "depth" "I", .fieldLink RX8 29 "TypingPool$Reader" "compared" "I", .fieldLink RX8 32 "TypingPool$Reader" "digits" "I", .fieldLink RX8 35 "TypingPool$Reader" "wantsThing" "Z", .methodLink RX8 39 Lib.Math.min.name, .static Lib.Math.min.name, .initialized "java/lang/Math", .code Lib.Math.min.name Lib.Math.min.code 2 (some .int)]
def wm_c_read0 : List Cond := .code yX8_read cX8_read 7 (some .int) :: (wo_c_read0 ++ (wsX80 ++ ([] : List Cond)))
theorem gd_c_read0 : ∀ w ∈ wm_c_read0, goodWord w = true := gd_c rfl (gd_a (by decide) (gd_a gd_wsX80 gd_nil))
set_option maxRecDepth 20000 in
theorem im_c_read0 : ∀ w ∈ wm_c_read0, w ∈ lw_tbl := im_c (in_r [.code yX8_read cX8_read 7 (some .int)] [258] (by decide +kernel)) (in_app (in_r wo_c_read0 [171, 173, 174, 175, 176, 177, 259, 260, 78, 261] (by decide +kernel)) (in_app im_wsX80 im_nil))
set_option maxHeartbeats 4000000 in
set_option maxRecDepth 100000 in
theorem c_read0 (l : Launch) (dC : Nat → ClassId) (dI : Nat → Nat → Nat) (ad av : Nat → Nat) (sz : Nat) (h0 : Nat) (sg : Nat) (lt : Nat) (ks : ClassId) (fs : Nat → Int32) (e0 : Nat) (e2 : Nat) (i1 : Int32) (i3 : Int32) (i4 : Int32) (i5 : Int32) (i6 : Int32) (i7 : Int32) : Met l yX8_read wm_c_read0 ({ frames := 2, cells := 0, slots := 0, locals := 60 }) (pr_ ad av (dC, dI) sz [.ref h0, .ref sg, .int 0, .ref lt] [(h0, .inr (8, [.ref e0, .int i1, .ref e2, .int i3, .int i4, .int i5, .int i6, .int i7])), (sg, .inl (ks, 100, .inl fs))] [(ks, .char)]) (va_Qi (fun (r u : Int32) => u = r) (fun (r : Int32) (t : State) => (r = 0)) (va_A [(h0, .inr (8, [.ref e0, .int i1, .ref e2, .int i3, .int i4, .int i5, .int i6, .int i7])), (sg, .inl (ks, 100, .inl fs))] sz)) 0 0 (va_A [(h0, .inr (8, [.ref e0, .int i1, .ref e2, .int i3, .int i4, .int i5, .int i6, .int i7])), (sg, .inl (ks, 100, .inl fs))] sz) := by
  refine Met.ofW (cc := cX8_read) (maxL := 7) (ret := (some .int)) (by decide) rfl ?_
  intro p e s m args below meth c s₁ B hml hv
  obtain ⟨rfl, hsz, hP, hK, hD0, hM⟩ := hv
  have hx := B.exec
  have hb := B.bytes
  have hr := B.returns
  have hts := atoms_spec (ws := wm_c_read0) B.pre
  have hown : s.vm.findClass RX8 = some m.cls := findClass_of_methodNamed B.named
  have hlocks := B.notSynchronized
  subst hsz
  have hD := hD0.self (sz := s.heap.size)
  generalize hAe : va_A [(h0, .inr (8, [.ref e0, .int i1, .ref e2, .int i3, .int i4, .int i5, .int i6, .int i7])), (sg, .inl (ks, 100, .inl fs))] s.heap.size = A at hD hM ⊢
  have hA : ∀ q : Nat, s.heap.size ≤ q → A q := fun q h => by rw [← hAe]; exact Or.inr h
  have hS : va_S A s.heap s.heap [] := va_S.rf
  have hP : va_P (dC, dI) vwCl [(h0, .inr (8, [.ref e0, .int i1, .ref e2, .int i3, .int i4, .int i5, .int i6, .int i7])), (sg, .inl (ks, 100, .inl fs))] s.heap := hP
  have hl := lv_entry ([.ref h0, .ref sg, .int 0, .ref lt]) (n := 7) (Nat.le_of_ble_eq_true rfl)
  rw [lg_entry_eq]
  generalize (lg_sl ([.ref h0, .ref sg, .int 0, .ref lt]) ++ List.replicate (7 - (lg_sl ([.ref h0, .ref sg, .int 0, .ref lt])).length) Slot.unset).toArray = ls at hl ⊢
  have hl : lv_has ls 7 [(0, .ref h0), (1, .ref sg), (2, .int 0), (3, .ref lt)] := hl
  refine lv_aload_n hx hb dX8_read_0 rfl (lv_at hl 0 rfl) ?_
  refine lv_iconst (v := 0) hx hb dX8_read_1 (by decide) ?_
  refine va_put (D := (dC, dI)) (ci := 8) (v := .int 0) (ty := .int) (C := RX8) (T := TX8) (N := 8) hx hb hts (fun _ hh => (List.mem_cons_of_mem _ (List.mem_append_right _ (List.mem_append_left _ hh)))) tyX8 tyX8_ok nmX8 hown hK hP hD hS 0 rfl rfl 1 (by decide) (hts (.fieldLink RX8 19 "TypingPool$Reader" "codeLength" "I") (List.mem_cons_of_mem _ (List.mem_append_left _ (List.mem_of_getElem? (i := 0) rfl)))) (fun _ h9 => h9) rfl (tyX8_ok 1 (by decide)) rfl rfl (Nat.le_of_ble_eq_true rfl) dX8_read_2 (fun H locs hP hD hS => ?_)
  have hP : va_P (dC, dI) vwCl [(h0, .inr (8, [.ref e0, .int 0, .ref e2, .int i3, .int i4, .int i5, .int i6, .int i7])), (sg, .inl (ks, 100, .inl fs))] H := hP
  have hD : va_D A [(h0, .inr (8, [.ref e0, .int 0, .ref e2, .int i3, .int i4, .int i5, .int i6, .int i7])), (sg, .inl (ks, 100, .inl fs))] := hD
  refine lv_aload_n hx hb dX8_read_5 rfl (lv_at hl 0 rfl) ?_
  refine lv_iconst (v := 0) hx hb dX8_read_6 (by decide) ?_
  refine va_put (D := (dC, dI)) (ci := 8) (v := .int 0) (ty := .int) (C := RX8) (T := TX8) (N := 8) hx hb hts (fun _ hh => (List.mem_cons_of_mem _ (List.mem_append_right _ (List.mem_append_left _ hh)))) tyX8 tyX8_ok nmX8 hown hK hP hD hS 0 rfl rfl 3 (by decide) (hts (.fieldLink RX8 23 "TypingPool$Reader" "openLength" "I") (List.mem_cons_of_mem _ (List.mem_append_left _ (List.mem_of_getElem? (i := 1) rfl)))) (fun _ h9 => h9) rfl (tyX8_ok 3 (by decide)) rfl rfl (Nat.le_of_ble_eq_true rfl) dX8_read_7 (fun H locs hP hD hS => ?_)
  have hP : va_P (dC, dI) vwCl [(h0, .inr (8, [.ref e0, .int 0, .ref e2, .int 0, .int i4, .int i5, .int i6, .int i7])), (sg, .inl (ks, 100, .inl fs))] H := hP
  have hD : va_D A [(h0, .inr (8, [.ref e0, .int 0, .ref e2, .int 0, .int i4, .int i5, .int i6, .int i7])), (sg, .inl (ks, 100, .inl fs))] := hD
  refine lv_aload_n hx hb dX8_read_10 rfl (lv_at hl 0 rfl) ?_
  refine lv_iconst (v := 0) hx hb dX8_read_11 (by decide) ?_
  refine va_put (D := (dC, dI)) (ci := 8) (v := .int 0) (ty := .int) (C := RX8) (T := TX8) (N := 8) hx hb hts (fun _ hh => (List.mem_cons_of_mem _ (List.mem_append_right _ (List.mem_append_left _ hh)))) tyX8 tyX8_ok nmX8 hown hK hP hD hS 0 rfl rfl 4 (by decide) (hts (.fieldLink RX8 26 "TypingPool$Reader" "depth" "I") (List.mem_cons_of_mem _ (List.mem_append_left _ (List.mem_of_getElem? (i := 2) rfl)))) (fun _ h9 => h9) rfl (tyX8_ok 4 (by decide)) rfl rfl (Nat.le_of_ble_eq_true rfl) dX8_read_12 (fun H locs hP hD hS => ?_)
  have hP : va_P (dC, dI) vwCl [(h0, .inr (8, [.ref e0, .int 0, .ref e2, .int 0, .int 0, .int i5, .int i6, .int i7])), (sg, .inl (ks, 100, .inl fs))] H := hP
  have hD : va_D A [(h0, .inr (8, [.ref e0, .int 0, .ref e2, .int 0, .int 0, .int i5, .int i6, .int i7])), (sg, .inl (ks, 100, .inl fs))] := hD
  refine lv_aload_n hx hb dX8_read_15 rfl (lv_at hl 0 rfl) ?_
  refine lv_iconst (v := 0) hx hb dX8_read_16 (by decide) ?_
  refine va_put (D := (dC, dI)) (ci := 8) (v := .int 0) (ty := .int) (C := RX8) (T := TX8) (N := 8) hx hb hts (fun _ hh => (List.mem_cons_of_mem _ (List.mem_append_right _ (List.mem_append_left _ hh)))) tyX8 tyX8_ok nmX8 hown hK hP hD hS 0 rfl rfl 5 (by decide) (hts (.fieldLink RX8 29 "TypingPool$Reader" "compared" "I") (List.mem_cons_of_mem _ (List.mem_append_left _ (List.mem_of_getElem? (i := 3) rfl)))) (fun _ h9 => h9) rfl (tyX8_ok 5 (by decide)) rfl rfl (Nat.le_of_ble_eq_true rfl) dX8_read_17 (fun H locs hP hD hS => ?_)
  have hP : va_P (dC, dI) vwCl [(h0, .inr (8, [.ref e0, .int 0, .ref e2, .int 0, .int 0, .int 0, .int i6, .int i7])), (sg, .inl (ks, 100, .inl fs))] H := hP
  have hD : va_D A [(h0, .inr (8, [.ref e0, .int 0, .ref e2, .int 0, .int 0, .int 0, .int i6, .int i7])), (sg, .inl (ks, 100, .inl fs))] := hD
  refine lv_aload_n hx hb dX8_read_20 rfl (lv_at hl 0 rfl) ?_
  refine lv_iconst (v := 0) hx hb dX8_read_21 (by decide) ?_
  refine va_put (D := (dC, dI)) (ci := 8) (v := .int 0) (ty := .int) (C := RX8) (T := TX8) (N := 8) hx hb hts (fun _ hh => (List.mem_cons_of_mem _ (List.mem_append_right _ (List.mem_append_left _ hh)))) tyX8 tyX8_ok nmX8 hown hK hP hD hS 0 rfl rfl 6 (by decide) (hts (.fieldLink RX8 32 "TypingPool$Reader" "digits" "I") (List.mem_cons_of_mem _ (List.mem_append_left _ (List.mem_of_getElem? (i := 4) rfl)))) (fun _ h9 => h9) rfl (tyX8_ok 6 (by decide)) rfl rfl (Nat.le_of_ble_eq_true rfl) dX8_read_22 (fun H locs hP hD hS => ?_)
  have hP : va_P (dC, dI) vwCl [(h0, .inr (8, [.ref e0, .int 0, .ref e2, .int 0, .int 0, .int 0, .int 0, .int i7])), (sg, .inl (ks, 100, .inl fs))] H := hP
  have hD : va_D A [(h0, .inr (8, [.ref e0, .int 0, .ref e2, .int 0, .int 0, .int 0, .int 0, .int i7])), (sg, .inl (ks, 100, .inl fs))] := hD
  refine lv_aload_n hx hb dX8_read_25 rfl (lv_at hl 0 rfl) ?_
  refine lv_iconst (v := 1) hx hb dX8_read_26 (by decide) ?_
  refine va_put (D := (dC, dI)) (ci := 8) (v := .int 1) (ty := .boolean) (C := RX8) (T := TX8) (N := 8) hx hb hts (fun _ hh => (List.mem_cons_of_mem _ (List.mem_append_right _ (List.mem_append_left _ hh)))) tyX8 tyX8_ok nmX8 hown hK hP hD hS 0 rfl rfl 7 (by decide) (hts (.fieldLink RX8 35 "TypingPool$Reader" "wantsThing" "Z") (List.mem_cons_of_mem _ (List.mem_append_left _ (List.mem_of_getElem? (i := 5) rfl)))) (fun _ h9 => h9) rfl (tyX8_ok 7 (by decide)) rfl rfl (Nat.le_of_ble_eq_true rfl) dX8_read_27 (fun H locs hP hD hS => ?_)
  have hP : va_P (dC, dI) vwCl [(h0, .inr (8, [.ref e0, .int 0, .ref e2, .int 0, .int 0, .int 0, .int 0, .int 1])), (sg, .inl (ks, 100, .inl fs))] H := hP
  have hD : va_D A [(h0, .inr (8, [.ref e0, .int 0, .ref e2, .int 0, .int 0, .int 0, .int 0, .int 1])), (sg, .inl (ks, 100, .inl fs))] := hD
  refine lv_iload_n hx hb dX8_read_30 rfl (lv_at hl 2 rfl) ?_
  refine lv_bipush (v := 60) hx hb dX8_read_31 (by decide) ?_
  refine va_mmin hx hb (by rw [hml]; exact hl.1.symm) hown (hts (.methodLink RX8 39 Lib.Math.min.name) (List.mem_cons_of_mem _ (List.mem_append_left _ (List.mem_of_getElem? (i := 6) rfl)))) (hts (.static Lib.Math.min.name) (List.mem_cons_of_mem _ (List.mem_append_left _ (List.mem_of_getElem? (i := 7) rfl)))) (hts (.initialized "java/lang/Math") (List.mem_cons_of_mem _ (List.mem_append_left _ (List.mem_of_getElem? (i := 8) rfl)))) (hts (.code Lib.Math.min.name Lib.Math.min.code 2 (some .int)) (List.mem_cons_of_mem _ (List.mem_append_left _ (List.mem_of_getElem? (i := 9) rfl)))) (Nat.le_of_ble_eq_true rfl) (Nat.le_of_ble_eq_true rfl) (Nat.le_of_ble_eq_true rfl) (Nat.le_of_ble_eq_true rfl) dX8_read_33 ?_
  refine lq_top (v := 0) (by decide) ?_
  refine lv_aload_n hx hb dX8_read_36 rfl (lv_at hl 1 rfl) ?_
  refine va_alen (v := 100) hx hb hK hP 1 0 rfl rfl rfl dX8_read_37 ?_
  refine va_mmin hx hb (by rw [hml]; exact hl.1.symm) hown (hts (.methodLink RX8 39 Lib.Math.min.name) (List.mem_cons_of_mem _ (List.mem_append_left _ (List.mem_of_getElem? (i := 6) rfl)))) (hts (.static Lib.Math.min.name) (List.mem_cons_of_mem _ (List.mem_append_left _ (List.mem_of_getElem? (i := 7) rfl)))) (hts (.initialized "java/lang/Math") (List.mem_cons_of_mem _ (List.mem_append_left _ (List.mem_of_getElem? (i := 8) rfl)))) (hts (.code Lib.Math.min.name Lib.Math.min.code 2 (some .int)) (List.mem_cons_of_mem _ (List.mem_append_left _ (List.mem_of_getElem? (i := 9) rfl)))) (Nat.le_of_ble_eq_true rfl) (Nat.le_of_ble_eq_true rfl) (Nat.le_of_ble_eq_true rfl) (Nat.le_of_ble_eq_true rfl) dX8_read_38 ?_
  refine lq_top (v := 0) (by decide) ?_
  refine lv_istore (lv' := [(4, .int 0), (0, .ref h0), (1, .ref sg), (2, .int 0), (3, .ref lt)]) hx hb dX8_read_41 hl (by decide) rfl (fun ls hl => ?_)
  refine lv_iconst (v := 0) hx hb dX8_read_43 (by decide) ?_
  refine lv_istore (lv' := [(5, .int 0), (4, .int 0), (0, .ref h0), (1, .ref sg), (2, .int 0), (3, .ref lt)]) hx hb dX8_read_44 hl (by decide) rfl (fun ls hl => ?_)
  refine lv_iload hx hb dX8_read_46 (lv_at hl 0 rfl) ?_
  refine lv_iload hx hb dX8_read_48 (lv_at hl 1 rfl) ?_
  refine lv_icmp_ge (tgt := 96) hx hb dX8_read_50 (by decide) (fun c_3 => ?_) (fun c_3 => absurd c_3 (fun z => z (by decide)))
  refine lv_iload_n hx hb dX8_read_96 rfl (lv_at hl 4 rfl) ?_
  refine lv_bipush (v := 60) hx hb dX8_read_97 (by decide) ?_
  refine lv_icmp_le (tgt := 105) hx hb dX8_read_99 (by decide) (fun c_4 => ?_) (fun c_4 => absurd c_4 (fun z => z (by decide)))
  refine lv_aload_n hx hb dX8_read_105 rfl (lv_at hl 2 rfl) ?_
  refine va_get (D := (dC, dI)) (ci := 8) (v := .int 1) (C := RX8) (T := TX8) (N := 8) hx hb hts (fun _ hh => (List.mem_cons_of_mem _ (List.mem_append_right _ (List.mem_append_left _ hh)))) hown hK hP 0 rfl rfl 7 (by decide) (hts (.fieldLink RX8 35 "TypingPool$Reader" "wantsThing" "Z") (List.mem_cons_of_mem _ (List.mem_append_left _ (List.mem_of_getElem? (i := 5) rfl)))) (fun _ h9 => h9) rfl dX8_read_106 ?_
  refine lv_if_ne (tgt := 119) hx hb dX8_read_109 (by decide) (fun c_5 => ?_) (fun c_5 => absurd c_5 (by decide))
  refine lv_iload_n hx hb dX8_read_119 rfl (lv_at hl 4 rfl) ?_
  exact W.iret (v := 0) hx hb hr (fun t ht hW => ⟨⟨0, 0, rfl, rfl, rfl⟩, hS.F ht⟩) hS.2.2 dX8_read_120
def wo_c_tell0 : List Cond := [.fieldLink RX10 31 "TypingPool$Rules" "reader" "LTypingPool$Reader;", .methodLink RX10 48 yX10_lettersOf, .static yX10_lettersOf, .initialized RX10, .methodLink RX10 51 yX8_read, .instanceMethod yX8_read, .selects RX8 yX8_read yX8_read, .initialized RX8]
def wm_c_tell0 : List Cond := .code yX10_tell cX10_tell 7 (some .int) :: (wo_c_tell0 ++ (wsX100 ++ (wm_c_lettersOf ++ (wm_c_read0 ++ ([] : List Cond)))))
theorem gd_c_tell0 : ∀ w ∈ wm_c_tell0, goodWord w = true := gd_c rfl (gd_a (by decide) (gd_a gd_wsX100 (gd_a gd_c_lettersOf (gd_a gd_c_read0 gd_nil))))
set_option maxRecDepth 20000 in
theorem im_c_tell0 : ∀ w ∈ wm_c_tell0, w ∈ lw_tbl := im_c (in_r [.code yX10_tell cX10_tell 7 (some .int)] [742] (by decide +kernel)) (in_app (in_r wo_c_tell0 [405, 248, 249, 72, 255, 256, 257, 73] (by decide +kernel)) (in_app im_wsX100 (in_app im_c_lettersOf (in_app im_c_read0 im_nil))))
set_option maxHeartbeats 4000000 in
set_option maxRecDepth 100000 in
theorem c_tell0 (l : Launch) (dC : Nat → ClassId) (dI : Nat → Nat → Nat) (ad av : Nat → Nat) (sz : Nat) (h0 : Nat) (sg : Nat) (r0 : Nat) (r1 : Nat) (r2 : Nat) (ro : Nat) (r4 : Nat) (ks : ClassId) (fs : Nat → Int32) (e0 : Nat) (e2 : Nat) (i1 : Int32) (i3 : Int32) (i4 : Int32) (i5 : Int32) (i6 : Int32) (i7 : Int32) (p0 : Int32) (p1 : Int32) : Met l yX10_tell wm_c_tell0 ({ frames := 4, cells := 0, slots := 0, locals := 150 }) (pr_ ad av (dC, dI) sz [.ref h0, .int p0, .int p1, .ref sg, .int 0] [(h0, .inr (10, [.ref r0, .int 0, .ref r1, .ref r2, .ref ro, .ref r4])), (ro, .inr (8, [.ref e0, .int i1, .ref e2, .int i3, .int i4, .int i5, .int i6, .int i7])), (sg, .inl (ks, 100, .inl fs))] [(ks, .char)]) (va_Qi (fun (r u : Int32) => u = r) (fun (r : Int32) (t : State) => (r = (-1))) (va_A [(h0, .inr (10, [.ref r0, .int 0, .ref r1, .ref r2, .ref ro, .ref r4])), (ro, .inr (8, [.ref e0, .int i1, .ref e2, .int i3, .int i4, .int i5, .int i6, .int i7])), (sg, .inl (ks, 100, .inl fs))] sz)) 0 0 (va_A [(h0, .inr (10, [.ref r0, .int 0, .ref r1, .ref r2, .ref ro, .ref r4])), (ro, .inr (8, [.ref e0, .int i1, .ref e2, .int i3, .int i4, .int i5, .int i6, .int i7])), (sg, .inl (ks, 100, .inl fs))] sz) := by
  refine Met.ofW (cc := cX10_tell) (maxL := 7) (ret := (some .int)) (by decide) rfl ?_
  intro p e s m args below meth c s₁ B hml hv
  obtain ⟨rfl, hsz, hP, hK, hD0, hM⟩ := hv
  have hx := B.exec
  have hb := B.bytes
  have hr := B.returns
  have hts := atoms_spec (ws := wm_c_tell0) B.pre
  have hown : s.vm.findClass RX10 = some m.cls := findClass_of_methodNamed B.named
  have hlocks := B.notSynchronized
  subst hsz
  have hD := hD0.self (sz := s.heap.size)
  generalize hAe : va_A [(h0, .inr (10, [.ref r0, .int 0, .ref r1, .ref r2, .ref ro, .ref r4])), (ro, .inr (8, [.ref e0, .int i1, .ref e2, .int i3, .int i4, .int i5, .int i6, .int i7])), (sg, .inl (ks, 100, .inl fs))] s.heap.size = A at hD hM ⊢
  have hA : ∀ q : Nat, s.heap.size ≤ q → A q := fun q h => by rw [← hAe]; exact Or.inr h
  have hS : va_S A s.heap s.heap [] := va_S.rf
  have hP : va_P (dC, dI) vwCl [(h0, .inr (10, [.ref r0, .int 0, .ref r1, .ref r2, .ref ro, .ref r4])), (ro, .inr (8, [.ref e0, .int i1, .ref e2, .int i3, .int i4, .int i5, .int i6, .int i7])), (sg, .inl (ks, 100, .inl fs))] s.heap := hP
  have hl := lv_entry ([.ref h0, .int p0, .int p1, .ref sg, .int 0]) (n := 7) (Nat.le_of_ble_eq_true rfl)
  rw [lg_entry_eq]
  generalize (lg_sl ([.ref h0, .int p0, .int p1, .ref sg, .int 0]) ++ List.replicate (7 - (lg_sl ([.ref h0, .int p0, .int p1, .ref sg, .int 0])).length) Slot.unset).toArray = ls at hl ⊢
  have hl : lv_has ls 7 [(0, .ref h0), (1, .int p0), (2, .int p1), (3, .ref sg), (4, .int 0)] := hl
  refine lv_aload_n hx hb dX10_tell_0 rfl (lv_at hl 0 rfl) ?_
  refine va_get (D := (dC, dI)) (ci := 10) (v := .ref ro) (C := RX10) (T := TX10) (N := 6) hx hb hts (fun _ hh => (List.mem_cons_of_mem _ (List.mem_append_right _ (List.mem_append_left _ hh)))) hown hK hP 0 rfl rfl 4 (by decide) (hts (.fieldLink RX10 31 "TypingPool$Rules" "reader" "LTypingPool$Reader;") (List.mem_cons_of_mem _ (List.mem_append_left _ (List.mem_of_getElem? (i := 0) rfl)))) (fun _ h9 => h9) rfl dX10_tell_1 ?_
  refine lv_aload_n hx hb dX10_tell_4 rfl (lv_at hl 3 rfl) ?_
  refine lv_iload hx hb dX10_tell_5 (lv_at hl 4 rfl) ?_
  refine lv_iload_n hx hb dX10_tell_7 rfl (lv_at hl 1 rfl) ?_
  have hPc := hP.sub (ws' := []) [] rfl
  have hDc := hD.sub (ws' := []) [] (by decide) rfl
  have hKc := hK.sub (tys' := []) [] rfl
  have hFc := va_free (wc := []) hD hS hA [] rfl
  refine va_callr (va_runS (As := [.int p0]) (rest := [.int 0, .ref sg, .ref ro]) ⟨hx, hb, hml, hown, hts⟩ (c_lettersOf l dC dI ad av s.heap.size p0 ) (va_cwS 1 hts (gi_3 (List.mem_cons_of_mem _ (List.mem_append_left _ (List.mem_of_getElem? (i := 1) rfl))) (List.mem_cons_of_mem _ (List.mem_append_left _ (List.mem_of_getElem? (i := 2) rfl))) (List.mem_cons_of_mem _ (List.mem_append_left _ (List.mem_of_getElem? (i := 3) rfl))) (fun _ hh => (List.mem_cons_of_mem _ (List.mem_append_right _ (List.mem_append_right _ (List.mem_append_left _ hh))))) gd_c_lettersOf) rfl rfl rfl (by decide +kernel) ⟨Nat.le_of_ble_eq_true rfl, Nat.le_of_ble_eq_true rfl⟩) ⟨pr_blind, pr_use hPc hKc hDc hFc hS hM⟩ rfl rfl hl.1 rfl (lv_room (Nat.le_of_ble_eq_true rfl)) dX10_tell_8 ⟨Nat.le_of_ble_eq_true rfl, Nat.le_of_ble_eq_true rfl⟩) hS (fun q _ h => hFc q h) hFc (fun u r_6 t H locs ht hvm hw hB hz1 hk1 hS => ?_)
  refine W.widen (k := 0) (n := 0) (Nat.le_of_ble_eq_true rfl) (Nat.le_of_ble_eq_true rfl) ?_
  obtain ⟨i_7, hre_8, hf_9, hf_10, hP1, hK1, hD1⟩ := hB
  rw [hre_8]
  rw [ht] at hP1
  have hK1 := va_K.moved hvm.symm hK1
  obtain ⟨hP, hD⟩ := va_join (wr := [(h0, .inr (10, [.ref r0, .int 0, .ref r1, .ref r2, .ref ro, .ref r4])), (ro, .inr (8, [.ref e0, .int i1, .ref e2, .int i3, .int i4, .int i5, .int i6, .int i7])), (sg, .inl (ks, 100, .inl fs))]) (w1 := []) hP hD [] [0, 1, 2] rfl rfl (by decide) (by decide) hk1 hFc hP1 hD1
  have hK := (hK.sub (tys' := [(ks, .char)]) [0] rfl).app hK1
  have hP : va_P (dC, dI) vwCl [(h0, .inr (10, [.ref r0, .int 0, .ref r1, .ref r2, .ref ro, .ref r4])), (ro, .inr (8, [.ref e0, .int i1, .ref e2, .int i3, .int i4, .int i5, .int i6, .int i7])), (sg, .inl (ks, 100, .inl fs))] H := hP
  have hD : va_D A [(h0, .inr (10, [.ref r0, .int 0, .ref r1, .ref r2, .ref ro, .ref r4])), (ro, .inr (8, [.ref e0, .int i1, .ref e2, .int i3, .int i4, .int i5, .int i6, .int i7])), (sg, .inl (ks, 100, .inl fs))] := hD
  have hK : va_K (dC, dI) vwCl [(ks, .char)] s := hK
  have hPc := hP.sub (ws' := [(ro, .inr (8, [.ref e0, .int i1, .ref e2, .int i3, .int i4, .int i5, .int i6, .int i7])), (sg, .inl (ks, 100, .inl fs))]) [1, 2] rfl
  have hDc := hD.sub (ws' := [(ro, .inr (8, [.ref e0, .int i1, .ref e2, .int i3, .int i4, .int i5, .int i6, .int i7])), (sg, .inl (ks, 100, .inl fs))]) [1, 2] (by decide) rfl
  have hKc := hK.sub (tys' := [(ks, .char)]) [0] rfl
  have hFc := va_free (wc := [(ro, .inr (8, [.ref e0, .int i1, .ref e2, .int i3, .int i4, .int i5, .int i6, .int i7])), (sg, .inl (ks, 100, .inl fs))]) hD hS hA [1, 2] rfl
  refine va_calli (va_runV (As := [.ref sg, .int 0, .ref (ad i_7)]) (rest := []) ⟨hx, hb, hml, hown, hts⟩ (c_read0 l dC dI ad av H.size ro sg (ad i_7) ks fs e0 e2 i1 i3 i4 i5 i6 i7 ) (cwV 3 hts (gi_4 (List.mem_cons_of_mem _ (List.mem_append_left _ (List.mem_of_getElem? (i := 4) rfl))) (List.mem_cons_of_mem _ (List.mem_append_left _ (List.mem_of_getElem? (i := 5) rfl))) (List.mem_cons_of_mem _ (List.mem_append_left _ (List.mem_of_getElem? (i := 6) rfl))) (List.mem_cons_of_mem _ (List.mem_append_left _ (List.mem_of_getElem? (i := 7) rfl))) (fun _ hh => (List.mem_cons_of_mem _ (List.mem_append_right _ (List.mem_append_right _ (List.mem_append_right _ (List.mem_append_left _ hh)))))) gd_c_read0) rfl rfl rfl (by decide +kernel) ⟨Nat.le_of_ble_eq_true rfl, Nat.le_of_ble_eq_true rfl⟩) ⟨pr_blind, va_recv hKc hPc (ci := 8) (q0 := 0) rfl rfl, pr_use hPc hKc hDc hFc hS hM⟩ rfl rfl hl.1 rfl (lv_room (Nat.le_of_ble_eq_true rfl)) dX10_tell_11 ⟨Nat.le_of_ble_eq_true rfl, Nat.le_of_ble_eq_true rfl⟩) hS (fun q _ h => hFc q h) hFc (fun r_11 u t H locs ht hvm hw hB hz1 hk1 hS => ?_)
  refine W.widen (k := 0) (n := 0) (Nat.le_of_ble_eq_true rfl) (Nat.le_of_ble_eq_true rfl) ?_
  subst hw
  have hre_12 := hB
  refine lq_top (v := 0) hre_12 ?_
  obtain ⟨hP, hD⟩ := va_join (wr := [(h0, .inr (10, [.ref r0, .int 0, .ref r1, .ref r2, .ref ro, .ref r4]))]) (w1 := []) hP hD [1, 2] [0] rfl rfl (by decide) (by decide) hk1 hFc (fun k q h => by simp at h) ⟨fun i j p q h => by simp at h, fun k q h => by simp at h⟩
  have hK := (hK.sub (tys' := []) [] rfl)
  have hP : va_P (dC, dI) vwCl [(h0, .inr (10, [.ref r0, .int 0, .ref r1, .ref r2, .ref ro, .ref r4]))] H := hP
  have hD : va_D A [(h0, .inr (10, [.ref r0, .int 0, .ref r1, .ref r2, .ref ro, .ref r4]))] := hD
  have hK : va_K (dC, dI) vwCl [] s := hK
  refine lv_istore (lv' := [(5, .int 0), (0, .ref h0), (1, .int p0), (2, .int p1), (3, .ref sg), (4, .int 0)]) hx hb dX10_tell_14 hl (by decide) rfl (fun ls hl => ?_)
  refine lv_iload hx hb dX10_tell_16 (lv_at hl 0 rfl) ?_
  refine lv_iconst (v := (-1)) hx hb dX10_tell_18 (by decide) ?_
  refine lv_icmp_eq (tgt := 27) hx hb dX10_tell_19 (by decide) (fun c_13 => absurd c_13 (by decide)) (fun c_13 => ?_)
  refine lv_iconst (v := (-1)) hx hb dX10_tell_22 (by decide) ?_
  refine lv_iload hx hb dX10_tell_23 (lv_at hl 0 rfl) ?_
  refine lv_isub hx hb dX10_tell_25 ?_
  refine lq_top (v := (-1)) (by decide) ?_
  exact W.iret (v := (-1)) hx hb hr (fun t ht hW => ⟨⟨(-1), (-1), rfl, rfl, rfl⟩, hS.F ht⟩) hS.2.2 dX10_tell_26
