def wo_c_within : List Cond := []
def wm_c_within : List Cond := .code yX11_within cX11_within 3 (some .boolean) :: (wo_c_within ++ ([] : List Cond))
theorem gd_c_within : ∀ w ∈ wm_c_within, goodWord w = true := gd_c rfl (gd_a (by decide) gd_nil)
set_option maxRecDepth 20000 in
theorem im_c_within : ∀ w ∈ wm_c_within, w ∈ lw_tbl := im_c (in_r [.code yX11_within cX11_within 3 (some .boolean)] [596] (by decide +kernel)) (in_app (in_r wo_c_within [] (by decide +kernel)) im_nil)
set_option maxHeartbeats 4000000 in
set_option maxRecDepth 100000 in
theorem c_within (l : Launch) (dC : Nat → ClassId) (dI : Nat → Nat → Nat) (ad av : Nat → Nat) (sz : Nat) (p0 : Int32) (p1 : Int32) (p2 : Int32) : Met l yX11_within wm_c_within ({ frames := 0, cells := 0, slots := 0, locals := 0 }) (pr_ ad av (dC, dI) sz [.int p0, .int p1, .int p2] [] []) (va_Qi (fun (r u : Int32) => u = r) (fun (r : Int32) (t : State) => (r = 1 ∧ p1 ≤ p0 ∧ p0 ≤ p2 ∧ po_ (dC, dI) (va_A [] sz) [] [] t) ∨ (r = 0 ∧ ¬ (p1 ≤ p0 ∧ p0 ≤ p2) ∧ po_ (dC, dI) (va_A [] sz) [] [] t)) (va_A [] sz)) 0 0 (va_A [] sz) := by
  refine Met.ofW (cc := cX11_within) (maxL := 3) (ret := (some .boolean)) (by decide) rfl ?_
  intro p e s m args below meth c s₁ B hml hv
  obtain ⟨rfl, hsz, hP, hK, hD0, hM⟩ := hv
  have hx := B.exec
  have hb := B.bytes
  have hr := B.returns
  have hts := atoms_spec (ws := wm_c_within) B.pre
  have hown : s.vm.findClass RX11 = some m.cls := findClass_of_methodNamed B.named
  have hlocks := B.notSynchronized
  subst hsz
  have hD := hD0.self (sz := s.heap.size)
  generalize hAe : va_A [] s.heap.size = A at hD hM ⊢
  have hA : ∀ q : Nat, s.heap.size ≤ q → A q := fun q h => by rw [← hAe]; exact Or.inr h
  have hS : va_S A s.heap s.heap [] := va_S.rf
  have hP : va_P (dC, dI) vwCl [] s.heap := hP
  have hl := lv_entry ([.int p0, .int p1, .int p2]) (n := 3) (Nat.le_of_ble_eq_true rfl)
  rw [lg_entry_eq]
  generalize (lg_sl ([.int p0, .int p1, .int p2]) ++ List.replicate (3 - (lg_sl ([.int p0, .int p1, .int p2])).length) Slot.unset).toArray = ls at hl ⊢
  have hl : lv_has ls 3 [(0, .int p0), (1, .int p1), (2, .int p2)] := hl
  refine lv_iload_n hx hb dX11_within_0 rfl (lv_at hl 0 rfl) ?_
  refine lv_iload_n hx hb dX11_within_1 rfl (lv_at hl 1 rfl) ?_
  refine lv_icmp_lt (tgt := 14) hx hb dX11_within_2 (by decide) (fun c_1 => ?_) (fun c_1 => ?_)
  · refine lv_iconst (v := 0) hx hb dX11_within_14 (by decide) ?_
    have hP9 := hP.sub (ws' := []) [] rfl
    have hD9 := hD.sub (ws' := []) [] (by decide) rfl
    have hK9 := hK.sub (tys' := []) [] rfl
    exact W.zret (v := 0) hx hb hr (by decide) (fun t ht hW => ⟨⟨0, 0, rfl, rfl, Or.inr (⟨rfl, rg_no1 c_1, by rw [ht]; exact hP9, va_K.moved hW.alike hK9, hD9⟩)⟩, hS.F ht⟩) hS.2.2 dX11_within_15
  · refine lv_iload_n hx hb dX11_within_5 rfl (lv_at hl 0 rfl) ?_
    refine lv_iload_n hx hb dX11_within_6 rfl (lv_at hl 2 rfl) ?_
    refine lv_icmp_gt (tgt := 14) hx hb dX11_within_7 (by decide) (fun c_2 => ?_) (fun c_2 => ?_)
    · refine lv_iconst (v := 0) hx hb dX11_within_14 (by decide) ?_
      have hP9 := hP.sub (ws' := []) [] rfl
      have hD9 := hD.sub (ws' := []) [] (by decide) rfl
      have hK9 := hK.sub (tys' := []) [] rfl
      exact W.zret (v := 0) hx hb hr (by decide) (fun t ht hW => ⟨⟨0, 0, rfl, rfl, Or.inr (⟨rfl, rg_no2 c_2, by rw [ht]; exact hP9, va_K.moved hW.alike hK9, hD9⟩)⟩, hS.F ht⟩) hS.2.2 dX11_within_15
    · refine lv_iconst (v := 1) hx hb dX11_within_10 (by decide) ?_
      refine lv_goto (tgt := 15) hx hb dX11_within_11 (by decide) ?_
      have hP9 := hP.sub (ws' := []) [] rfl
      have hD9 := hD.sub (ws' := []) [] (by decide) rfl
      have hK9 := hK.sub (tys' := []) [] rfl
      exact W.zret (v := 1) hx hb hr (by decide) (fun t ht hW => ⟨⟨1, 1, rfl, rfl, Or.inl ⟨rfl, Int32.not_lt.mp c_1, Int32.not_lt.mp c_2, by rw [ht]; exact hP9, va_K.moved hW.alike hK9, hD9⟩⟩, hS.F ht⟩) hS.2.2 dX11_within_15
def wo_c_hasHand0 : List Cond := [.fieldLink RX1 25 "TypingPool$Book" "handCount" "I"]
def wm_c_hasHand0 : List Cond := .code yX1_hasHand cX1_hasHand 2 (some .boolean) :: (wo_c_hasHand0 ++ (wsX10 ++ ([] : List Cond)))
theorem gd_c_hasHand0 : ∀ w ∈ wm_c_hasHand0, goodWord w = true := gd_c rfl (gd_a (by decide) (gd_a gd_wsX10 gd_nil))
set_option maxRecDepth 20000 in
theorem im_c_hasHand0 : ∀ w ∈ wm_c_hasHand0, w ∈ lw_tbl := im_c (in_r [.code yX1_hasHand cX1_hasHand 2 (some .boolean)] [632] (by decide +kernel)) (in_app (in_r wo_c_hasHand0 [123] (by decide +kernel)) (in_app im_wsX10 im_nil))
set_option maxHeartbeats 4000000 in
set_option maxRecDepth 100000 in
theorem c_hasHand0 (l : Launch) (dC : Nat → ClassId) (dI : Nat → Nat → Nat) (ad av : Nat → Nat) (sz : Nat) (h0 : Nat) (b0 : Nat) (b1 : Nat) (b2 : Nat) (b3 : Nat) (p0 : Int32) : Met l yX1_hasHand wm_c_hasHand0 ({ frames := 0, cells := 0, slots := 0, locals := 0 }) (pr_ ad av (dC, dI) sz [.ref h0, .int p0] [(h0, .inr (1, [.ref b0, .int 0, .ref b1, .int 0, .ref b2, .int 0, .ref b3, .int 0]))] []) (va_Qi (fun (r u : Int32) => u = r) (fun (r : Int32) (t : State) => (r = 0 ∧ po_ (dC, dI) (va_A [(h0, .inr (1, [.ref b0, .int 0, .ref b1, .int 0, .ref b2, .int 0, .ref b3, .int 0]))] sz) [(h0, .inr (1, [.ref b0, .int 0, .ref b1, .int 0, .ref b2, .int 0, .ref b3, .int 0]))] [] t)) (va_A [(h0, .inr (1, [.ref b0, .int 0, .ref b1, .int 0, .ref b2, .int 0, .ref b3, .int 0]))] sz)) 0 0 (va_A [(h0, .inr (1, [.ref b0, .int 0, .ref b1, .int 0, .ref b2, .int 0, .ref b3, .int 0]))] sz) := by
  refine Met.ofW (cc := cX1_hasHand) (maxL := 2) (ret := (some .boolean)) (by decide) rfl ?_
  intro p e s m args below meth c s₁ B hml hv
  obtain ⟨rfl, hsz, hP, hK, hD0, hM⟩ := hv
  have hx := B.exec
  have hb := B.bytes
  have hr := B.returns
  have hts := atoms_spec (ws := wm_c_hasHand0) B.pre
  have hown : s.vm.findClass RX1 = some m.cls := findClass_of_methodNamed B.named
  have hlocks := B.notSynchronized
  subst hsz
  have hD := hD0.self (sz := s.heap.size)
  generalize hAe : va_A [(h0, .inr (1, [.ref b0, .int 0, .ref b1, .int 0, .ref b2, .int 0, .ref b3, .int 0]))] s.heap.size = A at hD hM ⊢
  have hA : ∀ q : Nat, s.heap.size ≤ q → A q := fun q h => by rw [← hAe]; exact Or.inr h
  have hS : va_S A s.heap s.heap [] := va_S.rf
  have hP : va_P (dC, dI) vwCl [(h0, .inr (1, [.ref b0, .int 0, .ref b1, .int 0, .ref b2, .int 0, .ref b3, .int 0]))] s.heap := hP
  have hl := lv_entry ([.ref h0, .int p0]) (n := 2) (Nat.le_of_ble_eq_true rfl)
  rw [lg_entry_eq]
  generalize (lg_sl ([.ref h0, .int p0]) ++ List.replicate (2 - (lg_sl ([.ref h0, .int p0])).length) Slot.unset).toArray = ls at hl ⊢
  have hl : lv_has ls 2 [(0, .ref h0), (1, .int p0)] := hl
  refine lv_iload_n hx hb dX1_hasHand_0 rfl (lv_at hl 1 rfl) ?_
  refine lv_if_lt (tgt := 16) hx hb dX1_hasHand_1 (by decide) (fun c_3 => ?_) (fun c_3 => ?_)
  · refine lv_iconst (v := 0) hx hb dX1_hasHand_16 (by decide) ?_
    have hP9 := hP.sub (ws' := [(h0, .inr (1, [.ref b0, .int 0, .ref b1, .int 0, .ref b2, .int 0, .ref b3, .int 0]))]) [0] rfl
    have hD9 := hD.sub (ws' := [(h0, .inr (1, [.ref b0, .int 0, .ref b1, .int 0, .ref b2, .int 0, .ref b3, .int 0]))]) [0] (by decide) rfl
    have hK9 := hK.sub (tys' := []) [] rfl
    exact W.zret (v := 0) hx hb hr (by decide) (fun t ht hW => ⟨⟨0, 0, rfl, rfl, ⟨rfl, by rw [ht]; exact hP9, va_K.moved hW.alike hK9, hD9⟩⟩, hS.F ht⟩) hS.2.2 dX1_hasHand_17
  · refine lv_iload_n hx hb dX1_hasHand_4 rfl (lv_at hl 1 rfl) ?_
    refine lv_aload_n hx hb dX1_hasHand_5 rfl (lv_at hl 0 rfl) ?_
    refine va_get (D := (dC, dI)) (ci := 1) (v := .int 0) (C := RX1) (T := TX1) (N := 8) hx hb hts (fun _ hh => (List.mem_cons_of_mem _ (List.mem_append_right _ (List.mem_append_left _ hh)))) hown hK hP 0 rfl rfl 3 (by decide) (hts (.fieldLink RX1 25 "TypingPool$Book" "handCount" "I") (List.mem_cons_of_mem _ (List.mem_append_left _ (List.mem_of_getElem? (i := 0) rfl)))) (fun _ h9 => h9) rfl dX1_hasHand_6 ?_
    refine lv_icmp_ge (tgt := 16) hx hb dX1_hasHand_9 (by decide) (fun c_4 => ?_) (fun c_4 => absurd c_4 (fun z => z (Int32.not_lt.mp c_3)))
    refine lv_iconst (v := 0) hx hb dX1_hasHand_16 (by decide) ?_
    have hP9 := hP.sub (ws' := [(h0, .inr (1, [.ref b0, .int 0, .ref b1, .int 0, .ref b2, .int 0, .ref b3, .int 0]))]) [0] rfl
    have hD9 := hD.sub (ws' := [(h0, .inr (1, [.ref b0, .int 0, .ref b1, .int 0, .ref b2, .int 0, .ref b3, .int 0]))]) [0] (by decide) rfl
    have hK9 := hK.sub (tys' := []) [] rfl
    exact W.zret (v := 0) hx hb hr (by decide) (fun t ht hW => ⟨⟨0, 0, rfl, rfl, ⟨rfl, by rw [ht]; exact hP9, va_K.moved hW.alike hK9, hD9⟩⟩, hS.F ht⟩) hS.2.2 dX1_hasHand_17
def wo_c_hasPiece0 : List Cond := [.fieldLink RX1 34 "TypingPool$Book" "pieceCount" "I"]
def wm_c_hasPiece0 : List Cond := .code yX1_hasPiece cX1_hasPiece 2 (some .boolean) :: (wo_c_hasPiece0 ++ (wsX10 ++ ([] : List Cond)))
theorem gd_c_hasPiece0 : ∀ w ∈ wm_c_hasPiece0, goodWord w = true := gd_c rfl (gd_a (by decide) (gd_a gd_wsX10 gd_nil))
set_option maxRecDepth 20000 in
theorem im_c_hasPiece0 : ∀ w ∈ wm_c_hasPiece0, w ∈ lw_tbl := im_c (in_r [.code yX1_hasPiece cX1_hasPiece 2 (some .boolean)] [843] (by decide +kernel)) (in_app (in_r wo_c_hasPiece0 [131] (by decide +kernel)) (in_app im_wsX10 im_nil))
set_option maxHeartbeats 4000000 in
set_option maxRecDepth 100000 in
theorem c_hasPiece0 (l : Launch) (dC : Nat → ClassId) (dI : Nat → Nat → Nat) (ad av : Nat → Nat) (sz : Nat) (h0 : Nat) (b0 : Nat) (b1 : Nat) (b2 : Nat) (b3 : Nat) (p0 : Int32) : Met l yX1_hasPiece wm_c_hasPiece0 ({ frames := 0, cells := 0, slots := 0, locals := 0 }) (pr_ ad av (dC, dI) sz [.ref h0, .int p0] [(h0, .inr (1, [.ref b0, .int 0, .ref b1, .int 0, .ref b2, .int 0, .ref b3, .int 0]))] []) (va_Qi (fun (r u : Int32) => u = r) (fun (r : Int32) (t : State) => (r = 0 ∧ po_ (dC, dI) (va_A [(h0, .inr (1, [.ref b0, .int 0, .ref b1, .int 0, .ref b2, .int 0, .ref b3, .int 0]))] sz) [(h0, .inr (1, [.ref b0, .int 0, .ref b1, .int 0, .ref b2, .int 0, .ref b3, .int 0]))] [] t)) (va_A [(h0, .inr (1, [.ref b0, .int 0, .ref b1, .int 0, .ref b2, .int 0, .ref b3, .int 0]))] sz)) 0 0 (va_A [(h0, .inr (1, [.ref b0, .int 0, .ref b1, .int 0, .ref b2, .int 0, .ref b3, .int 0]))] sz) := by
  refine Met.ofW (cc := cX1_hasPiece) (maxL := 2) (ret := (some .boolean)) (by decide) rfl ?_
  intro p e s m args below meth c s₁ B hml hv
  obtain ⟨rfl, hsz, hP, hK, hD0, hM⟩ := hv
  have hx := B.exec
  have hb := B.bytes
  have hr := B.returns
  have hts := atoms_spec (ws := wm_c_hasPiece0) B.pre
  have hown : s.vm.findClass RX1 = some m.cls := findClass_of_methodNamed B.named
  have hlocks := B.notSynchronized
  subst hsz
  have hD := hD0.self (sz := s.heap.size)
  generalize hAe : va_A [(h0, .inr (1, [.ref b0, .int 0, .ref b1, .int 0, .ref b2, .int 0, .ref b3, .int 0]))] s.heap.size = A at hD hM ⊢
  have hA : ∀ q : Nat, s.heap.size ≤ q → A q := fun q h => by rw [← hAe]; exact Or.inr h
  have hS : va_S A s.heap s.heap [] := va_S.rf
  have hP : va_P (dC, dI) vwCl [(h0, .inr (1, [.ref b0, .int 0, .ref b1, .int 0, .ref b2, .int 0, .ref b3, .int 0]))] s.heap := hP
  have hl := lv_entry ([.ref h0, .int p0]) (n := 2) (Nat.le_of_ble_eq_true rfl)
  rw [lg_entry_eq]
  generalize (lg_sl ([.ref h0, .int p0]) ++ List.replicate (2 - (lg_sl ([.ref h0, .int p0])).length) Slot.unset).toArray = ls at hl ⊢
  have hl : lv_has ls 2 [(0, .ref h0), (1, .int p0)] := hl
  refine lv_iload_n hx hb dX1_hasPiece_0 rfl (lv_at hl 1 rfl) ?_
  refine lv_if_lt (tgt := 16) hx hb dX1_hasPiece_1 (by decide) (fun c_5 => ?_) (fun c_5 => ?_)
  · refine lv_iconst (v := 0) hx hb dX1_hasPiece_16 (by decide) ?_
    have hP9 := hP.sub (ws' := [(h0, .inr (1, [.ref b0, .int 0, .ref b1, .int 0, .ref b2, .int 0, .ref b3, .int 0]))]) [0] rfl
    have hD9 := hD.sub (ws' := [(h0, .inr (1, [.ref b0, .int 0, .ref b1, .int 0, .ref b2, .int 0, .ref b3, .int 0]))]) [0] (by decide) rfl
    have hK9 := hK.sub (tys' := []) [] rfl
    exact W.zret (v := 0) hx hb hr (by decide) (fun t ht hW => ⟨⟨0, 0, rfl, rfl, ⟨rfl, by rw [ht]; exact hP9, va_K.moved hW.alike hK9, hD9⟩⟩, hS.F ht⟩) hS.2.2 dX1_hasPiece_17
  · refine lv_iload_n hx hb dX1_hasPiece_4 rfl (lv_at hl 1 rfl) ?_
    refine lv_aload_n hx hb dX1_hasPiece_5 rfl (lv_at hl 0 rfl) ?_
    refine va_get (D := (dC, dI)) (ci := 1) (v := .int 0) (C := RX1) (T := TX1) (N := 8) hx hb hts (fun _ hh => (List.mem_cons_of_mem _ (List.mem_append_right _ (List.mem_append_left _ hh)))) hown hK hP 0 rfl rfl 5 (by decide) (hts (.fieldLink RX1 34 "TypingPool$Book" "pieceCount" "I") (List.mem_cons_of_mem _ (List.mem_append_left _ (List.mem_of_getElem? (i := 0) rfl)))) (fun _ h9 => h9) rfl dX1_hasPiece_6 ?_
    refine lv_icmp_ge (tgt := 16) hx hb dX1_hasPiece_9 (by decide) (fun c_6 => ?_) (fun c_6 => absurd c_6 (fun z => z (Int32.not_lt.mp c_5)))
    refine lv_iconst (v := 0) hx hb dX1_hasPiece_16 (by decide) ?_
    have hP9 := hP.sub (ws' := [(h0, .inr (1, [.ref b0, .int 0, .ref b1, .int 0, .ref b2, .int 0, .ref b3, .int 0]))]) [0] rfl
    have hD9 := hD.sub (ws' := [(h0, .inr (1, [.ref b0, .int 0, .ref b1, .int 0, .ref b2, .int 0, .ref b3, .int 0]))]) [0] (by decide) rfl
    have hK9 := hK.sub (tys' := []) [] rfl
    exact W.zret (v := 0) hx hb hr (by decide) (fun t ht hW => ⟨⟨0, 0, rfl, rfl, ⟨rfl, by rw [ht]; exact hP9, va_K.moved hW.alike hK9, hD9⟩⟩, hS.F ht⟩) hS.2.2 dX1_hasPiece_17
def wo_c_hasCorrection0 : List Cond := [.fieldLink RX5 17 "TypingPool$Ledger" "count" "I"]
def wm_c_hasCorrection0 : List Cond := .code yX5_hasCorrection cX5_hasCorrection 2 (some .boolean) :: (wo_c_hasCorrection0 ++ (wsX50 ++ ([] : List Cond)))
theorem gd_c_hasCorrection0 : ∀ w ∈ wm_c_hasCorrection0, goodWord w = true := gd_c rfl (gd_a (by decide) (gd_a gd_wsX50 gd_nil))
set_option maxRecDepth 20000 in
theorem im_c_hasCorrection0 : ∀ w ∈ wm_c_hasCorrection0, w ∈ lw_tbl := im_c (in_r [.code yX5_hasCorrection cX5_hasCorrection 2 (some .boolean)] [939] (by decide +kernel)) (in_app (in_r wo_c_hasCorrection0 [492] (by decide +kernel)) (in_app im_wsX50 im_nil))
set_option maxHeartbeats 4000000 in
set_option maxRecDepth 100000 in
theorem c_hasCorrection0 (l : Launch) (dC : Nat → ClassId) (dI : Nat → Nat → Nat) (ad av : Nat → Nat) (sz : Nat) (h0 : Nat) (g0 : Nat) (g1 : Nat) (g2 : Nat) (g3 : Nat) (p0 : Int32) : Met l yX5_hasCorrection wm_c_hasCorrection0 ({ frames := 0, cells := 0, slots := 0, locals := 0 }) (pr_ ad av (dC, dI) sz [.ref h0, .int p0] [(h0, .inr (5, [.ref g0, .ref g1, .ref g2, .ref g3, .int 0, .int 99]))] []) (va_Qi (fun (r u : Int32) => u = r) (fun (r : Int32) (t : State) => (r = 0 ∧ po_ (dC, dI) (va_A [(h0, .inr (5, [.ref g0, .ref g1, .ref g2, .ref g3, .int 0, .int 99]))] sz) [(h0, .inr (5, [.ref g0, .ref g1, .ref g2, .ref g3, .int 0, .int 99]))] [] t)) (va_A [(h0, .inr (5, [.ref g0, .ref g1, .ref g2, .ref g3, .int 0, .int 99]))] sz)) 0 0 (va_A [(h0, .inr (5, [.ref g0, .ref g1, .ref g2, .ref g3, .int 0, .int 99]))] sz) := by
  refine Met.ofW (cc := cX5_hasCorrection) (maxL := 2) (ret := (some .boolean)) (by decide) rfl ?_
  intro p e s m args below meth c s₁ B hml hv
  obtain ⟨rfl, hsz, hP, hK, hD0, hM⟩ := hv
  have hx := B.exec
  have hb := B.bytes
  have hr := B.returns
  have hts := atoms_spec (ws := wm_c_hasCorrection0) B.pre
  have hown : s.vm.findClass RX5 = some m.cls := findClass_of_methodNamed B.named
  have hlocks := B.notSynchronized
  subst hsz
  have hD := hD0.self (sz := s.heap.size)
  generalize hAe : va_A [(h0, .inr (5, [.ref g0, .ref g1, .ref g2, .ref g3, .int 0, .int 99]))] s.heap.size = A at hD hM ⊢
  have hA : ∀ q : Nat, s.heap.size ≤ q → A q := fun q h => by rw [← hAe]; exact Or.inr h
  have hS : va_S A s.heap s.heap [] := va_S.rf
  have hP : va_P (dC, dI) vwCl [(h0, .inr (5, [.ref g0, .ref g1, .ref g2, .ref g3, .int 0, .int 99]))] s.heap := hP
  have hl := lv_entry ([.ref h0, .int p0]) (n := 2) (Nat.le_of_ble_eq_true rfl)
  rw [lg_entry_eq]
  generalize (lg_sl ([.ref h0, .int p0]) ++ List.replicate (2 - (lg_sl ([.ref h0, .int p0])).length) Slot.unset).toArray = ls at hl ⊢
  have hl : lv_has ls 2 [(0, .ref h0), (1, .int p0)] := hl
  refine lv_iload_n hx hb dX5_hasCorrection_0 rfl (lv_at hl 1 rfl) ?_
  refine lv_if_lt (tgt := 16) hx hb dX5_hasCorrection_1 (by decide) (fun c_7 => ?_) (fun c_7 => ?_)
  · refine lv_iconst (v := 0) hx hb dX5_hasCorrection_16 (by decide) ?_
    have hP9 := hP.sub (ws' := [(h0, .inr (5, [.ref g0, .ref g1, .ref g2, .ref g3, .int 0, .int 99]))]) [0] rfl
    have hD9 := hD.sub (ws' := [(h0, .inr (5, [.ref g0, .ref g1, .ref g2, .ref g3, .int 0, .int 99]))]) [0] (by decide) rfl
    have hK9 := hK.sub (tys' := []) [] rfl
    exact W.zret (v := 0) hx hb hr (by decide) (fun t ht hW => ⟨⟨0, 0, rfl, rfl, ⟨rfl, by rw [ht]; exact hP9, va_K.moved hW.alike hK9, hD9⟩⟩, hS.F ht⟩) hS.2.2 dX5_hasCorrection_17
  · refine lv_iload_n hx hb dX5_hasCorrection_4 rfl (lv_at hl 1 rfl) ?_
    refine lv_aload_n hx hb dX5_hasCorrection_5 rfl (lv_at hl 0 rfl) ?_
    refine va_get (D := (dC, dI)) (ci := 5) (v := .int 0) (C := RX5) (T := TX5) (N := 6) hx hb hts (fun _ hh => (List.mem_cons_of_mem _ (List.mem_append_right _ (List.mem_append_left _ hh)))) hown hK hP 0 rfl rfl 4 (by decide) (hts (.fieldLink RX5 17 "TypingPool$Ledger" "count" "I") (List.mem_cons_of_mem _ (List.mem_append_left _ (List.mem_of_getElem? (i := 0) rfl)))) (fun _ h9 => h9) rfl dX5_hasCorrection_6 ?_
    refine lv_icmp_ge (tgt := 16) hx hb dX5_hasCorrection_9 (by decide) (fun c_8 => ?_) (fun c_8 => absurd c_8 (fun z => z (Int32.not_lt.mp c_7)))
    refine lv_iconst (v := 0) hx hb dX5_hasCorrection_16 (by decide) ?_
    have hP9 := hP.sub (ws' := [(h0, .inr (5, [.ref g0, .ref g1, .ref g2, .ref g3, .int 0, .int 99]))]) [0] rfl
    have hD9 := hD.sub (ws' := [(h0, .inr (5, [.ref g0, .ref g1, .ref g2, .ref g3, .int 0, .int 99]))]) [0] (by decide) rfl
    have hK9 := hK.sub (tys' := []) [] rfl
    exact W.zret (v := 0) hx hb hr (by decide) (fun t ht hW => ⟨⟨0, 0, rfl, rfl, ⟨rfl, by rw [ht]; exact hP9, va_K.moved hW.alike hK9, hD9⟩⟩, hS.F ht⟩) hS.2.2 dX5_hasCorrection_17
def wo_c_Hand_init : List Cond := [.methodLink RX4 1 objectInit, .instanceMethod objectInit, .code objectInit ⟨#[0xb1]⟩ 1 none, .fieldLink RX4 7 "TypingPool$Hand" "speed" "I", .fieldLink RX4 13 "TypingPool$Hand" "styles" "I", .fieldLink RX4 16 "TypingPool$Hand" "leave" "I"]
def wm_c_Hand_init : List Cond := .code yX4_init cX4_init 4 none :: (wo_c_Hand_init ++ (wsX40 ++ ([] : List Cond)))
theorem gd_c_Hand_init : ∀ w ∈ wm_c_Hand_init, goodWord w = true := gd_c rfl (gd_a (by decide) (gd_a gd_wsX40 gd_nil))
set_option maxRecDepth 20000 in
theorem im_c_Hand_init : ∀ w ∈ wm_c_Hand_init, w ∈ lw_tbl := im_c (in_r [.code yX4_init cX4_init 4 none] [606] (by decide +kernel)) (in_app (in_r wo_c_Hand_init [607, 102, 103, 608, 610, 612] (by decide +kernel)) (in_app im_wsX40 im_nil))
set_option maxHeartbeats 4000000 in
set_option maxRecDepth 100000 in
theorem c_Hand_init (l : Launch) (dC : Nat → ClassId) (dI : Nat → Nat → Nat) (ad av : Nat → Nat) (sz : Nat) (h0 : Nat) (p0 : Int32) (p1 : Int32) (p2 : Int32) : Met l yX4_init wm_c_Hand_init ({ frames := 1, cells := 0, slots := 0, locals := 12 }) (pr_ ad av (dC, dI) sz [.ref h0, .int p0, .int p1, .int p2] [(h0, .inr (4, [.int 0, .int 0, .int 0]))] []) (va_Qv (fun (_ : Unit) => True) (fun (_ : Unit) (t : State) => (po_ (dC, dI) (va_A [(h0, .inr (4, [.int 0, .int 0, .int 0]))] sz) [(h0, .inr (4, [.int p0, .int p1, .int p2]))] [] t)) (va_A [(h0, .inr (4, [.int 0, .int 0, .int 0]))] sz)) 0 0 (va_A [(h0, .inr (4, [.int 0, .int 0, .int 0]))] sz) := by
  refine Met.ofW (cc := cX4_init) (maxL := 4) (ret := none) (by decide) rfl ?_
  intro p e s m args below meth c s₁ B hml hv
  obtain ⟨rfl, hsz, hP, hK, hD0, hM⟩ := hv
  have hx := B.exec
  have hb := B.bytes
  have hr := B.returns
  have hts := atoms_spec (ws := wm_c_Hand_init) B.pre
  have hown : s.vm.findClass RX4 = some m.cls := findClass_of_methodNamed B.named
  have hlocks := B.notSynchronized
  have hin : meth.name = "<init>" := (name_of_methodNamed B.named B.method).1
  subst hsz
  have hD := hD0.self (sz := s.heap.size)
  generalize hAe : va_A [(h0, .inr (4, [.int 0, .int 0, .int 0]))] s.heap.size = A at hD hM ⊢
  have hA : ∀ q : Nat, s.heap.size ≤ q → A q := fun q h => by rw [← hAe]; exact Or.inr h
  have hS : va_S A s.heap s.heap [] := va_S.rf
  have hP : va_P (dC, dI) vwCl [(h0, .inr (4, [.int 0, .int 0, .int 0]))] s.heap := hP
  have hl := lv_entry ([.ref h0, .int p0, .int p1, .int p2]) (n := 4) (Nat.le_of_ble_eq_true rfl)
  rw [lg_entry_eq]
  generalize (lg_sl ([.ref h0, .int p0, .int p1, .int p2]) ++ List.replicate (4 - (lg_sl ([.ref h0, .int p0, .int p1, .int p2])).length) Slot.unset).toArray = ls at hl ⊢
  have hl : lv_has ls 4 [(0, .ref h0), (1, .int p0), (2, .int p1), (3, .int p2)] := hl
  refine lv_aload_n hx hb dX4_init_0 rfl (lv_at hl 0 rfl) ?_
  refine W.objInit hx hb hown (hts (.methodLink RX4 1 objectInit) (List.mem_cons_of_mem _ (List.mem_append_left _ (List.mem_of_getElem? (i := 0) rfl)))) (hts (.instanceMethod objectInit) (List.mem_cons_of_mem _ (List.mem_append_left _ (List.mem_of_getElem? (i := 1) rfl)))) (hts (.code objectInit ⟨#[0xb1]⟩ 1 none) (List.mem_cons_of_mem _ (List.mem_append_left _ (List.mem_of_getElem? (i := 2) rfl)))) rfl (by rw [hml]; exact hl.1) rfl dX4_init_1 (Nat.le_of_ble_eq_true rfl) (Nat.le_of_ble_eq_true rfl) ?_
  refine W.eq (g2 := F0 m 4 ls []) rfl ?_
  refine lv_aload_n hx hb dX4_init_4 rfl (lv_at hl 0 rfl) ?_
  refine lv_iload_n hx hb dX4_init_5 rfl (lv_at hl 1 rfl) ?_
  refine va_putF (D := (dC, dI)) (ci := 4) (v := .int p0) (ty := .int) (C := RX4) (T := TX4) (N := 3) hx hb hts (fun _ hh => (List.mem_cons_of_mem _ (List.mem_append_right _ (List.mem_append_left _ hh)))) tyX4 tyX4_ok nmX4 hown hK hP hD hS 0 rfl rfl 0 (by decide) (hts (.fieldLink RX4 7 "TypingPool$Hand" "speed" "I") (List.mem_cons_of_mem _ (List.mem_append_left _ (List.mem_of_getElem? (i := 3) rfl)))) (fun _ h9 => h9) rfl hin rfl (tyX4_ok 0 (by decide)) rfl rfl (Nat.le_of_ble_eq_true rfl) dX4_init_6 (fun H locs hP hD hS => ?_)
  have hP : va_P (dC, dI) vwCl [(h0, .inr (4, [.int p0, .int 0, .int 0]))] H := hP
  have hD : va_D A [(h0, .inr (4, [.int p0, .int 0, .int 0]))] := hD
  refine lv_aload_n hx hb dX4_init_9 rfl (lv_at hl 0 rfl) ?_
  refine lv_iload_n hx hb dX4_init_10 rfl (lv_at hl 2 rfl) ?_
  refine va_putF (D := (dC, dI)) (ci := 4) (v := .int p1) (ty := .int) (C := RX4) (T := TX4) (N := 3) hx hb hts (fun _ hh => (List.mem_cons_of_mem _ (List.mem_append_right _ (List.mem_append_left _ hh)))) tyX4 tyX4_ok nmX4 hown hK hP hD hS 0 rfl rfl 1 (by decide) (hts (.fieldLink RX4 13 "TypingPool$Hand" "styles" "I") (List.mem_cons_of_mem _ (List.mem_append_left _ (List.mem_of_getElem? (i := 4) rfl)))) (fun _ h9 => h9) rfl hin rfl (tyX4_ok 1 (by decide)) rfl rfl (Nat.le_of_ble_eq_true rfl) dX4_init_11 (fun H locs hP hD hS => ?_)
  have hP : va_P (dC, dI) vwCl [(h0, .inr (4, [.int p0, .int p1, .int 0]))] H := hP
  have hD : va_D A [(h0, .inr (4, [.int p0, .int p1, .int 0]))] := hD
  refine lv_aload_n hx hb dX4_init_14 rfl (lv_at hl 0 rfl) ?_
  refine lv_iload_n hx hb dX4_init_15 rfl (lv_at hl 3 rfl) ?_
  refine va_putF (D := (dC, dI)) (ci := 4) (v := .int p2) (ty := .int) (C := RX4) (T := TX4) (N := 3) hx hb hts (fun _ hh => (List.mem_cons_of_mem _ (List.mem_append_right _ (List.mem_append_left _ hh)))) tyX4 tyX4_ok nmX4 hown hK hP hD hS 0 rfl rfl 2 (by decide) (hts (.fieldLink RX4 16 "TypingPool$Hand" "leave" "I") (List.mem_cons_of_mem _ (List.mem_append_left _ (List.mem_of_getElem? (i := 5) rfl)))) (fun _ h9 => h9) rfl hin rfl (tyX4_ok 2 (by decide)) rfl rfl (Nat.le_of_ble_eq_true rfl) dX4_init_16 (fun H locs hP hD hS => ?_)
  have hP : va_P (dC, dI) vwCl [(h0, .inr (4, [.int p0, .int p1, .int p2]))] H := hP
  have hD : va_D A [(h0, .inr (4, [.int p0, .int p1, .int p2]))] := hD
  have hP9 := hP.sub (ws' := [(h0, .inr (4, [.int p0, .int p1, .int p2]))]) [0] rfl
  have hD9 := hD.sub (ws' := [(h0, .inr (4, [.int p0, .int p1, .int p2]))]) [0] (by decide) rfl
  have hK9 := hK.sub (tys' := []) [] rfl
  exact W.vret hx hb hr (fun t ht hW => ⟨⟨(), rfl, trivial, ⟨by rw [ht]; exact hP9, va_K.moved hW.alike hK9, hD9⟩⟩, hS.F ht⟩) hS.2.2 dX4_init_19
def wo_c_openHand0 : List Cond := [.fieldLink RX3 15 "TypingPool$Floor" "has" "[I", .fieldLink RX3 19 "TypingPool$Floor" "rate" "[I", .fieldLink RX3 22 "TypingPool$Floor" "words" "[I", .fieldLink RX3 25 "TypingPool$Floor" "worked" "[I"]
def wm_c_openHand0 : List Cond := .code yX3_openHand cX3_openHand 3 none :: (wo_c_openHand0 ++ (wsX30 ++ ([] : List Cond)))
theorem gd_c_openHand0 : ∀ w ∈ wm_c_openHand0, goodWord w = true := gd_c rfl (gd_a (by decide) (gd_a gd_wsX30 gd_nil))
set_option maxRecDepth 20000 in
theorem im_c_openHand0 : ∀ w ∈ wm_c_openHand0, w ∈ lw_tbl := im_c (in_r [.code yX3_openHand cX3_openHand 3 none] [624] (by decide +kernel)) (in_app (in_r wo_c_openHand0 [431, 434, 437, 440] (by decide +kernel)) (in_app im_wsX30 im_nil))
set_option maxHeartbeats 4000000 in
set_option maxRecDepth 100000 in
theorem c_openHand0 (l : Launch) (dC : Nat → ClassId) (dI : Nat → Nat → Nat) (ad av : Nat → Nat) (sz : Nat) (h0 : Nat) (c0 : Nat) (c1 : Nat) (d0 : Nat) (d1 : Nat) (d2 : Nat) (d3 : Nat) (d4 : Nat) (d5 : Nat) (d6 : Nat) (d7 : Nat) (d8 : Nat) (k0 : ClassId) (k1 : ClassId) (k2 : ClassId) (k3 : ClassId) (f0 : Nat → Int32) (f1 : Nat → Int32) (f2 : Nat → Int32) (f3 : Nat → Int32) (p0 : Int32) : Met l yX3_openHand wm_c_openHand0 ({ frames := 0, cells := 0, slots := 0, locals := 0 }) (pr_ ad av (dC, dI) sz [.ref h0, .int 0, .int p0] [(h0, .inr (3, [.ref c0, .ref c1, .int 0, .ref d0, .ref d1, .ref d2, .ref d3, .ref d4, .ref d5, .ref d6, .ref d7, .ref d8])), (d0, .inl (k0, 8, .inl f0)), (d1, .inl (k1, 8, .inl f1)), (d2, .inl (k2, 8, .inl f2)), (d3, .inl (k3, 8, .inl f3))] [(k0, .int), (k1, .int), (k2, .int), (k3, .int)]) (va_Qv (fun (_ : Unit) => True) (fun (_ : Unit) (t : State) => (True)) (va_A [(h0, .inr (3, [.ref c0, .ref c1, .int 0, .ref d0, .ref d1, .ref d2, .ref d3, .ref d4, .ref d5, .ref d6, .ref d7, .ref d8])), (d0, .inl (k0, 8, .inl f0)), (d1, .inl (k1, 8, .inl f1)), (d2, .inl (k2, 8, .inl f2)), (d3, .inl (k3, 8, .inl f3))] sz)) 0 0 (va_A [(h0, .inr (3, [.ref c0, .ref c1, .int 0, .ref d0, .ref d1, .ref d2, .ref d3, .ref d4, .ref d5, .ref d6, .ref d7, .ref d8])), (d0, .inl (k0, 8, .inl f0)), (d1, .inl (k1, 8, .inl f1)), (d2, .inl (k2, 8, .inl f2)), (d3, .inl (k3, 8, .inl f3))] sz) := by
  refine Met.ofW (cc := cX3_openHand) (maxL := 3) (ret := none) (by decide) rfl ?_
  intro p e s m args below meth c s₁ B hml hv
  obtain ⟨rfl, hsz, hP, hK, hD0, hM⟩ := hv
  have hx := B.exec
  have hb := B.bytes
  have hr := B.returns
  have hts := atoms_spec (ws := wm_c_openHand0) B.pre
  have hown : s.vm.findClass RX3 = some m.cls := findClass_of_methodNamed B.named
  have hlocks := B.notSynchronized
  subst hsz
  have hD := hD0.self (sz := s.heap.size)
  generalize hAe : va_A [(h0, .inr (3, [.ref c0, .ref c1, .int 0, .ref d0, .ref d1, .ref d2, .ref d3, .ref d4, .ref d5, .ref d6, .ref d7, .ref d8])), (d0, .inl (k0, 8, .inl f0)), (d1, .inl (k1, 8, .inl f1)), (d2, .inl (k2, 8, .inl f2)), (d3, .inl (k3, 8, .inl f3))] s.heap.size = A at hD hM ⊢
  have hA : ∀ q : Nat, s.heap.size ≤ q → A q := fun q h => by rw [← hAe]; exact Or.inr h
  have hS : va_S A s.heap s.heap [] := va_S.rf
  have hP : va_P (dC, dI) vwCl [(h0, .inr (3, [.ref c0, .ref c1, .int 0, .ref d0, .ref d1, .ref d2, .ref d3, .ref d4, .ref d5, .ref d6, .ref d7, .ref d8])), (d0, .inl (k0, 8, .inl f0)), (d1, .inl (k1, 8, .inl f1)), (d2, .inl (k2, 8, .inl f2)), (d3, .inl (k3, 8, .inl f3))] s.heap := hP
  have hl := lv_entry ([.ref h0, .int 0, .int p0]) (n := 3) (Nat.le_of_ble_eq_true rfl)
  rw [lg_entry_eq]
  generalize (lg_sl ([.ref h0, .int 0, .int p0]) ++ List.replicate (3 - (lg_sl ([.ref h0, .int 0, .int p0])).length) Slot.unset).toArray = ls at hl ⊢
  have hl : lv_has ls 3 [(0, .ref h0), (1, .int 0), (2, .int p0)] := hl
  refine lv_aload_n hx hb dX3_openHand_0 rfl (lv_at hl 0 rfl) ?_
  refine va_get (D := (dC, dI)) (ci := 3) (v := .ref d0) (C := RX3) (T := TX3) (N := 12) hx hb hts (fun _ hh => (List.mem_cons_of_mem _ (List.mem_append_right _ (List.mem_append_left _ hh)))) hown hK hP 0 rfl rfl 3 (by decide) (hts (.fieldLink RX3 15 "TypingPool$Floor" "has" "[I") (List.mem_cons_of_mem _ (List.mem_append_left _ (List.mem_of_getElem? (i := 0) rfl)))) (fun _ h9 => h9) rfl dX3_openHand_1 ?_
  refine lv_iload_n hx hb dX3_openHand_4 rfl (lv_at hl 1 rfl) ?_
  refine lv_iconst (v := (-1)) hx hb dX3_openHand_5 (by decide) ?_
  refine va_iast hx hb hK hP hD hS 1 0 rfl rfl (by unfold vp_in; decide) dX3_openHand_6 (fun H locs hP hD hS => ?_)
  obtain ⟨f_86, ef_86⟩ : ∃ y : Nat → Int32, y = upd f0 (0 : Int32).toNatClampNeg (-1) := ⟨_, rfl⟩
  have hP : va_P (dC, dI) vwCl [(h0, .inr (3, [.ref c0, .ref c1, .int 0, .ref d0, .ref d1, .ref d2, .ref d3, .ref d4, .ref d5, .ref d6, .ref d7, .ref d8])), (d0, .inl (k0, 8, .inl f_86)), (d1, .inl (k1, 8, .inl f1)), (d2, .inl (k2, 8, .inl f2)), (d3, .inl (k3, 8, .inl f3))] H := by rw [ef_86]; exact hP
  have hD : va_D A [(h0, .inr (3, [.ref c0, .ref c1, .int 0, .ref d0, .ref d1, .ref d2, .ref d3, .ref d4, .ref d5, .ref d6, .ref d7, .ref d8])), (d0, .inl (k0, 8, .inl f_86)), (d1, .inl (k1, 8, .inl f1)), (d2, .inl (k2, 8, .inl f2)), (d3, .inl (k3, 8, .inl f3))] := by rw [ef_86]; exact hD
  refine lv_aload_n hx hb dX3_openHand_7 rfl (lv_at hl 0 rfl) ?_
  refine va_get (D := (dC, dI)) (ci := 3) (v := .ref d1) (C := RX3) (T := TX3) (N := 12) hx hb hts (fun _ hh => (List.mem_cons_of_mem _ (List.mem_append_right _ (List.mem_append_left _ hh)))) hown hK hP 0 rfl rfl 4 (by decide) (hts (.fieldLink RX3 19 "TypingPool$Floor" "rate" "[I") (List.mem_cons_of_mem _ (List.mem_append_left _ (List.mem_of_getElem? (i := 1) rfl)))) (fun _ h9 => h9) rfl dX3_openHand_8 ?_
  refine lv_iload_n hx hb dX3_openHand_11 rfl (lv_at hl 1 rfl) ?_
  refine lv_iconst (v := (-1)) hx hb dX3_openHand_12 (by decide) ?_
  refine va_iast hx hb hK hP hD hS 2 1 rfl rfl (by unfold vp_in; decide) dX3_openHand_13 (fun H locs hP hD hS => ?_)
  obtain ⟨f_87, ef_87⟩ : ∃ y : Nat → Int32, y = upd f1 (0 : Int32).toNatClampNeg (-1) := ⟨_, rfl⟩
  have hP : va_P (dC, dI) vwCl [(h0, .inr (3, [.ref c0, .ref c1, .int 0, .ref d0, .ref d1, .ref d2, .ref d3, .ref d4, .ref d5, .ref d6, .ref d7, .ref d8])), (d0, .inl (k0, 8, .inl f_86)), (d1, .inl (k1, 8, .inl f_87)), (d2, .inl (k2, 8, .inl f2)), (d3, .inl (k3, 8, .inl f3))] H := by rw [ef_87]; exact hP
  have hD : va_D A [(h0, .inr (3, [.ref c0, .ref c1, .int 0, .ref d0, .ref d1, .ref d2, .ref d3, .ref d4, .ref d5, .ref d6, .ref d7, .ref d8])), (d0, .inl (k0, 8, .inl f_86)), (d1, .inl (k1, 8, .inl f_87)), (d2, .inl (k2, 8, .inl f2)), (d3, .inl (k3, 8, .inl f3))] := by rw [ef_87]; exact hD
  refine lv_aload_n hx hb dX3_openHand_14 rfl (lv_at hl 0 rfl) ?_
  refine va_get (D := (dC, dI)) (ci := 3) (v := .ref d2) (C := RX3) (T := TX3) (N := 12) hx hb hts (fun _ hh => (List.mem_cons_of_mem _ (List.mem_append_right _ (List.mem_append_left _ hh)))) hown hK hP 0 rfl rfl 5 (by decide) (hts (.fieldLink RX3 22 "TypingPool$Floor" "words" "[I") (List.mem_cons_of_mem _ (List.mem_append_left _ (List.mem_of_getElem? (i := 2) rfl)))) (fun _ h9 => h9) rfl dX3_openHand_15 ?_
  refine lv_iload_n hx hb dX3_openHand_18 rfl (lv_at hl 1 rfl) ?_
  refine lv_iload_n hx hb dX3_openHand_19 rfl (lv_at hl 2 rfl) ?_
  refine va_iast hx hb hK hP hD hS 3 2 rfl rfl (by unfold vp_in; decide) dX3_openHand_20 (fun H locs hP hD hS => ?_)
  obtain ⟨f_88, ef_88⟩ : ∃ y : Nat → Int32, y = upd f2 (0 : Int32).toNatClampNeg p0 := ⟨_, rfl⟩
  have hP : va_P (dC, dI) vwCl [(h0, .inr (3, [.ref c0, .ref c1, .int 0, .ref d0, .ref d1, .ref d2, .ref d3, .ref d4, .ref d5, .ref d6, .ref d7, .ref d8])), (d0, .inl (k0, 8, .inl f_86)), (d1, .inl (k1, 8, .inl f_87)), (d2, .inl (k2, 8, .inl f_88)), (d3, .inl (k3, 8, .inl f3))] H := by rw [ef_88]; exact hP
  have hD : va_D A [(h0, .inr (3, [.ref c0, .ref c1, .int 0, .ref d0, .ref d1, .ref d2, .ref d3, .ref d4, .ref d5, .ref d6, .ref d7, .ref d8])), (d0, .inl (k0, 8, .inl f_86)), (d1, .inl (k1, 8, .inl f_87)), (d2, .inl (k2, 8, .inl f_88)), (d3, .inl (k3, 8, .inl f3))] := by rw [ef_88]; exact hD
  refine lv_aload_n hx hb dX3_openHand_21 rfl (lv_at hl 0 rfl) ?_
  refine va_get (D := (dC, dI)) (ci := 3) (v := .ref d3) (C := RX3) (T := TX3) (N := 12) hx hb hts (fun _ hh => (List.mem_cons_of_mem _ (List.mem_append_right _ (List.mem_append_left _ hh)))) hown hK hP 0 rfl rfl 6 (by decide) (hts (.fieldLink RX3 25 "TypingPool$Floor" "worked" "[I") (List.mem_cons_of_mem _ (List.mem_append_left _ (List.mem_of_getElem? (i := 3) rfl)))) (fun _ h9 => h9) rfl dX3_openHand_22 ?_
  refine lv_iload_n hx hb dX3_openHand_25 rfl (lv_at hl 1 rfl) ?_
  refine lv_iconst (v := 0) hx hb dX3_openHand_26 (by decide) ?_
  refine va_iast hx hb hK hP hD hS 4 3 rfl rfl (by unfold vp_in; decide) dX3_openHand_27 (fun H locs hP hD hS => ?_)
  obtain ⟨f_89, ef_89⟩ : ∃ y : Nat → Int32, y = upd f3 (0 : Int32).toNatClampNeg 0 := ⟨_, rfl⟩
  have hP : va_P (dC, dI) vwCl [(h0, .inr (3, [.ref c0, .ref c1, .int 0, .ref d0, .ref d1, .ref d2, .ref d3, .ref d4, .ref d5, .ref d6, .ref d7, .ref d8])), (d0, .inl (k0, 8, .inl f_86)), (d1, .inl (k1, 8, .inl f_87)), (d2, .inl (k2, 8, .inl f_88)), (d3, .inl (k3, 8, .inl f_89))] H := by rw [ef_89]; exact hP
  have hD : va_D A [(h0, .inr (3, [.ref c0, .ref c1, .int 0, .ref d0, .ref d1, .ref d2, .ref d3, .ref d4, .ref d5, .ref d6, .ref d7, .ref d8])), (d0, .inl (k0, 8, .inl f_86)), (d1, .inl (k1, 8, .inl f_87)), (d2, .inl (k2, 8, .inl f_88)), (d3, .inl (k3, 8, .inl f_89))] := by rw [ef_89]; exact hD
  exact W.vret hx hb hr (fun t ht hW => ⟨⟨(), rfl, trivial, trivial⟩, hS.F ht⟩) hS.2.2 dX3_openHand_28
def wo_c_openPiece0 : List Cond := [.fieldLink RX3 28 "TypingPool$Floor" "by" "[I", .fieldLink RX3 31 "TypingPool$Floor" "taken" "[I", .fieldLink RX3 34 "TypingPool$Floor" "done" "[I", .fieldLink RX3 37 "TypingPool$Floor" "workLeft" "[I", .fieldLink RX3 40 "TypingPool$Floor" "knew" "[I"]
def wm_c_openPiece0 : List Cond := .code yX3_openPiece cX3_openPiece 3 none :: (wo_c_openPiece0 ++ (wsX30 ++ ([] : List Cond)))
theorem gd_c_openPiece0 : ∀ w ∈ wm_c_openPiece0, goodWord w = true := gd_c rfl (gd_a (by decide) (gd_a gd_wsX30 gd_nil))
set_option maxRecDepth 20000 in
theorem im_c_openPiece0 : ∀ w ∈ wm_c_openPiece0, w ∈ lw_tbl := im_c (in_r [.code yX3_openPiece cX3_openPiece 3 none] [726] (by decide +kernel)) (in_app (in_r wo_c_openPiece0 [442, 444, 446, 449, 452] (by decide +kernel)) (in_app im_wsX30 im_nil))
set_option maxHeartbeats 4000000 in
set_option maxRecDepth 100000 in
theorem c_openPiece0 (l : Launch) (dC : Nat → ClassId) (dI : Nat → Nat → Nat) (ad av : Nat → Nat) (sz : Nat) (h0 : Nat) (c0 : Nat) (c1 : Nat) (d0 : Nat) (d1 : Nat) (d2 : Nat) (d3 : Nat) (d4 : Nat) (d5 : Nat) (d6 : Nat) (d7 : Nat) (d8 : Nat) (k4 : ClassId) (k5 : ClassId) (k6 : ClassId) (k7 : ClassId) (k8 : ClassId) (f4 : Nat → Int32) (f5 : Nat → Int32) (f6 : Nat → Int32) (f7 : Nat → Int32) (f8 : Nat → Int32) (p0 : Int32) : Met l yX3_openPiece wm_c_openPiece0 ({ frames := 0, cells := 0, slots := 0, locals := 0 }) (pr_ ad av (dC, dI) sz [.ref h0, .int 0, .int p0] [(h0, .inr (3, [.ref c0, .ref c1, .int 0, .ref d0, .ref d1, .ref d2, .ref d3, .ref d4, .ref d5, .ref d6, .ref d7, .ref d8])), (d4, .inl (k4, 30, .inl f4)), (d5, .inl (k5, 30, .inl f5)), (d6, .inl (k6, 30, .inl f6)), (d7, .inl (k7, 30, .inl f7)), (d8, .inl (k8, 30, .inl f8))] [(k4, .int), (k5, .int), (k6, .int), (k7, .int), (k8, .int)]) (va_Qv (fun (_ : Unit) => True) (fun (_ : Unit) (t : State) => (True)) (va_A [(h0, .inr (3, [.ref c0, .ref c1, .int 0, .ref d0, .ref d1, .ref d2, .ref d3, .ref d4, .ref d5, .ref d6, .ref d7, .ref d8])), (d4, .inl (k4, 30, .inl f4)), (d5, .inl (k5, 30, .inl f5)), (d6, .inl (k6, 30, .inl f6)), (d7, .inl (k7, 30, .inl f7)), (d8, .inl (k8, 30, .inl f8))] sz)) 0 0 (va_A [(h0, .inr (3, [.ref c0, .ref c1, .int 0, .ref d0, .ref d1, .ref d2, .ref d3, .ref d4, .ref d5, .ref d6, .ref d7, .ref d8])), (d4, .inl (k4, 30, .inl f4)), (d5, .inl (k5, 30, .inl f5)), (d6, .inl (k6, 30, .inl f6)), (d7, .inl (k7, 30, .inl f7)), (d8, .inl (k8, 30, .inl f8))] sz) := by
  refine Met.ofW (cc := cX3_openPiece) (maxL := 3) (ret := none) (by decide) rfl ?_
  intro p e s m args below meth c s₁ B hml hv
  obtain ⟨rfl, hsz, hP, hK, hD0, hM⟩ := hv
  have hx := B.exec
  have hb := B.bytes
  have hr := B.returns
  have hts := atoms_spec (ws := wm_c_openPiece0) B.pre
  have hown : s.vm.findClass RX3 = some m.cls := findClass_of_methodNamed B.named
  have hlocks := B.notSynchronized
  subst hsz
  have hD := hD0.self (sz := s.heap.size)
  generalize hAe : va_A [(h0, .inr (3, [.ref c0, .ref c1, .int 0, .ref d0, .ref d1, .ref d2, .ref d3, .ref d4, .ref d5, .ref d6, .ref d7, .ref d8])), (d4, .inl (k4, 30, .inl f4)), (d5, .inl (k5, 30, .inl f5)), (d6, .inl (k6, 30, .inl f6)), (d7, .inl (k7, 30, .inl f7)), (d8, .inl (k8, 30, .inl f8))] s.heap.size = A at hD hM ⊢
  have hA : ∀ q : Nat, s.heap.size ≤ q → A q := fun q h => by rw [← hAe]; exact Or.inr h
  have hS : va_S A s.heap s.heap [] := va_S.rf
  have hP : va_P (dC, dI) vwCl [(h0, .inr (3, [.ref c0, .ref c1, .int 0, .ref d0, .ref d1, .ref d2, .ref d3, .ref d4, .ref d5, .ref d6, .ref d7, .ref d8])), (d4, .inl (k4, 30, .inl f4)), (d5, .inl (k5, 30, .inl f5)), (d6, .inl (k6, 30, .inl f6)), (d7, .inl (k7, 30, .inl f7)), (d8, .inl (k8, 30, .inl f8))] s.heap := hP
  have hl := lv_entry ([.ref h0, .int 0, .int p0]) (n := 3) (Nat.le_of_ble_eq_true rfl)
  rw [lg_entry_eq]
  generalize (lg_sl ([.ref h0, .int 0, .int p0]) ++ List.replicate (3 - (lg_sl ([.ref h0, .int 0, .int p0])).length) Slot.unset).toArray = ls at hl ⊢
  have hl : lv_has ls 3 [(0, .ref h0), (1, .int 0), (2, .int p0)] := hl
  refine lv_aload_n hx hb dX3_openPiece_0 rfl (lv_at hl 0 rfl) ?_
  refine va_get (D := (dC, dI)) (ci := 3) (v := .ref d4) (C := RX3) (T := TX3) (N := 12) hx hb hts (fun _ hh => (List.mem_cons_of_mem _ (List.mem_append_right _ (List.mem_append_left _ hh)))) hown hK hP 0 rfl rfl 7 (by decide) (hts (.fieldLink RX3 28 "TypingPool$Floor" "by" "[I") (List.mem_cons_of_mem _ (List.mem_append_left _ (List.mem_of_getElem? (i := 0) rfl)))) (fun _ h9 => h9) rfl dX3_openPiece_1 ?_
  refine lv_iload_n hx hb dX3_openPiece_4 rfl (lv_at hl 1 rfl) ?_
  refine lv_iconst (v := (-1)) hx hb dX3_openPiece_5 (by decide) ?_
  refine va_iast hx hb hK hP hD hS 1 0 rfl rfl (by unfold vp_in; decide) dX3_openPiece_6 (fun H locs hP hD hS => ?_)
  obtain ⟨f_90, ef_90⟩ : ∃ y : Nat → Int32, y = upd f4 (0 : Int32).toNatClampNeg (-1) := ⟨_, rfl⟩
  have hP : va_P (dC, dI) vwCl [(h0, .inr (3, [.ref c0, .ref c1, .int 0, .ref d0, .ref d1, .ref d2, .ref d3, .ref d4, .ref d5, .ref d6, .ref d7, .ref d8])), (d4, .inl (k4, 30, .inl f_90)), (d5, .inl (k5, 30, .inl f5)), (d6, .inl (k6, 30, .inl f6)), (d7, .inl (k7, 30, .inl f7)), (d8, .inl (k8, 30, .inl f8))] H := by rw [ef_90]; exact hP
  have hD : va_D A [(h0, .inr (3, [.ref c0, .ref c1, .int 0, .ref d0, .ref d1, .ref d2, .ref d3, .ref d4, .ref d5, .ref d6, .ref d7, .ref d8])), (d4, .inl (k4, 30, .inl f_90)), (d5, .inl (k5, 30, .inl f5)), (d6, .inl (k6, 30, .inl f6)), (d7, .inl (k7, 30, .inl f7)), (d8, .inl (k8, 30, .inl f8))] := by rw [ef_90]; exact hD
  refine lv_aload_n hx hb dX3_openPiece_7 rfl (lv_at hl 0 rfl) ?_
  refine va_get (D := (dC, dI)) (ci := 3) (v := .ref d5) (C := RX3) (T := TX3) (N := 12) hx hb hts (fun _ hh => (List.mem_cons_of_mem _ (List.mem_append_right _ (List.mem_append_left _ hh)))) hown hK hP 0 rfl rfl 8 (by decide) (hts (.fieldLink RX3 31 "TypingPool$Floor" "taken" "[I") (List.mem_cons_of_mem _ (List.mem_append_left _ (List.mem_of_getElem? (i := 1) rfl)))) (fun _ h9 => h9) rfl dX3_openPiece_8 ?_
  refine lv_iload_n hx hb dX3_openPiece_11 rfl (lv_at hl 1 rfl) ?_
  refine lv_iconst (v := (-1)) hx hb dX3_openPiece_12 (by decide) ?_
  refine va_iast hx hb hK hP hD hS 2 1 rfl rfl (by unfold vp_in; decide) dX3_openPiece_13 (fun H locs hP hD hS => ?_)
  obtain ⟨f_91, ef_91⟩ : ∃ y : Nat → Int32, y = upd f5 (0 : Int32).toNatClampNeg (-1) := ⟨_, rfl⟩
  have hP : va_P (dC, dI) vwCl [(h0, .inr (3, [.ref c0, .ref c1, .int 0, .ref d0, .ref d1, .ref d2, .ref d3, .ref d4, .ref d5, .ref d6, .ref d7, .ref d8])), (d4, .inl (k4, 30, .inl f_90)), (d5, .inl (k5, 30, .inl f_91)), (d6, .inl (k6, 30, .inl f6)), (d7, .inl (k7, 30, .inl f7)), (d8, .inl (k8, 30, .inl f8))] H := by rw [ef_91]; exact hP
  have hD : va_D A [(h0, .inr (3, [.ref c0, .ref c1, .int 0, .ref d0, .ref d1, .ref d2, .ref d3, .ref d4, .ref d5, .ref d6, .ref d7, .ref d8])), (d4, .inl (k4, 30, .inl f_90)), (d5, .inl (k5, 30, .inl f_91)), (d6, .inl (k6, 30, .inl f6)), (d7, .inl (k7, 30, .inl f7)), (d8, .inl (k8, 30, .inl f8))] := by rw [ef_91]; exact hD
  refine lv_aload_n hx hb dX3_openPiece_14 rfl (lv_at hl 0 rfl) ?_
  refine va_get (D := (dC, dI)) (ci := 3) (v := .ref d6) (C := RX3) (T := TX3) (N := 12) hx hb hts (fun _ hh => (List.mem_cons_of_mem _ (List.mem_append_right _ (List.mem_append_left _ hh)))) hown hK hP 0 rfl rfl 9 (by decide) (hts (.fieldLink RX3 34 "TypingPool$Floor" "done" "[I") (List.mem_cons_of_mem _ (List.mem_append_left _ (List.mem_of_getElem? (i := 2) rfl)))) (fun _ h9 => h9) rfl dX3_openPiece_15 ?_
  refine lv_iload_n hx hb dX3_openPiece_18 rfl (lv_at hl 1 rfl) ?_
  refine lv_iconst (v := (-1)) hx hb dX3_openPiece_19 (by decide) ?_
  refine va_iast hx hb hK hP hD hS 3 2 rfl rfl (by unfold vp_in; decide) dX3_openPiece_20 (fun H locs hP hD hS => ?_)
  obtain ⟨f_92, ef_92⟩ : ∃ y : Nat → Int32, y = upd f6 (0 : Int32).toNatClampNeg (-1) := ⟨_, rfl⟩
  have hP : va_P (dC, dI) vwCl [(h0, .inr (3, [.ref c0, .ref c1, .int 0, .ref d0, .ref d1, .ref d2, .ref d3, .ref d4, .ref d5, .ref d6, .ref d7, .ref d8])), (d4, .inl (k4, 30, .inl f_90)), (d5, .inl (k5, 30, .inl f_91)), (d6, .inl (k6, 30, .inl f_92)), (d7, .inl (k7, 30, .inl f7)), (d8, .inl (k8, 30, .inl f8))] H := by rw [ef_92]; exact hP
  have hD : va_D A [(h0, .inr (3, [.ref c0, .ref c1, .int 0, .ref d0, .ref d1, .ref d2, .ref d3, .ref d4, .ref d5, .ref d6, .ref d7, .ref d8])), (d4, .inl (k4, 30, .inl f_90)), (d5, .inl (k5, 30, .inl f_91)), (d6, .inl (k6, 30, .inl f_92)), (d7, .inl (k7, 30, .inl f7)), (d8, .inl (k8, 30, .inl f8))] := by rw [ef_92]; exact hD
  refine lv_aload_n hx hb dX3_openPiece_21 rfl (lv_at hl 0 rfl) ?_
  refine va_get (D := (dC, dI)) (ci := 3) (v := .ref d7) (C := RX3) (T := TX3) (N := 12) hx hb hts (fun _ hh => (List.mem_cons_of_mem _ (List.mem_append_right _ (List.mem_append_left _ hh)))) hown hK hP 0 rfl rfl 10 (by decide) (hts (.fieldLink RX3 37 "TypingPool$Floor" "workLeft" "[I") (List.mem_cons_of_mem _ (List.mem_append_left _ (List.mem_of_getElem? (i := 3) rfl)))) (fun _ h9 => h9) rfl dX3_openPiece_22 ?_
  refine lv_iload_n hx hb dX3_openPiece_25 rfl (lv_at hl 1 rfl) ?_
  refine lv_iload_n hx hb dX3_openPiece_26 rfl (lv_at hl 2 rfl) ?_
  refine va_iast hx hb hK hP hD hS 4 3 rfl rfl (by unfold vp_in; decide) dX3_openPiece_27 (fun H locs hP hD hS => ?_)
  obtain ⟨f_93, ef_93⟩ : ∃ y : Nat → Int32, y = upd f7 (0 : Int32).toNatClampNeg p0 := ⟨_, rfl⟩
  have hP : va_P (dC, dI) vwCl [(h0, .inr (3, [.ref c0, .ref c1, .int 0, .ref d0, .ref d1, .ref d2, .ref d3, .ref d4, .ref d5, .ref d6, .ref d7, .ref d8])), (d4, .inl (k4, 30, .inl f_90)), (d5, .inl (k5, 30, .inl f_91)), (d6, .inl (k6, 30, .inl f_92)), (d7, .inl (k7, 30, .inl f_93)), (d8, .inl (k8, 30, .inl f8))] H := by rw [ef_93]; exact hP
  have hD : va_D A [(h0, .inr (3, [.ref c0, .ref c1, .int 0, .ref d0, .ref d1, .ref d2, .ref d3, .ref d4, .ref d5, .ref d6, .ref d7, .ref d8])), (d4, .inl (k4, 30, .inl f_90)), (d5, .inl (k5, 30, .inl f_91)), (d6, .inl (k6, 30, .inl f_92)), (d7, .inl (k7, 30, .inl f_93)), (d8, .inl (k8, 30, .inl f8))] := by rw [ef_93]; exact hD
  refine lv_aload_n hx hb dX3_openPiece_28 rfl (lv_at hl 0 rfl) ?_
  refine va_get (D := (dC, dI)) (ci := 3) (v := .ref d8) (C := RX3) (T := TX3) (N := 12) hx hb hts (fun _ hh => (List.mem_cons_of_mem _ (List.mem_append_right _ (List.mem_append_left _ hh)))) hown hK hP 0 rfl rfl 11 (by decide) (hts (.fieldLink RX3 40 "TypingPool$Floor" "knew" "[I") (List.mem_cons_of_mem _ (List.mem_append_left _ (List.mem_of_getElem? (i := 4) rfl)))) (fun _ h9 => h9) rfl dX3_openPiece_29 ?_
  refine lv_iload_n hx hb dX3_openPiece_32 rfl (lv_at hl 1 rfl) ?_
  refine lv_iconst (v := 0) hx hb dX3_openPiece_33 (by decide) ?_
  refine va_iast hx hb hK hP hD hS 5 4 rfl rfl (by unfold vp_in; decide) dX3_openPiece_34 (fun H locs hP hD hS => ?_)
  obtain ⟨f_94, ef_94⟩ : ∃ y : Nat → Int32, y = upd f8 (0 : Int32).toNatClampNeg 0 := ⟨_, rfl⟩
  have hP : va_P (dC, dI) vwCl [(h0, .inr (3, [.ref c0, .ref c1, .int 0, .ref d0, .ref d1, .ref d2, .ref d3, .ref d4, .ref d5, .ref d6, .ref d7, .ref d8])), (d4, .inl (k4, 30, .inl f_90)), (d5, .inl (k5, 30, .inl f_91)), (d6, .inl (k6, 30, .inl f_92)), (d7, .inl (k7, 30, .inl f_93)), (d8, .inl (k8, 30, .inl f_94))] H := by rw [ef_94]; exact hP
  have hD : va_D A [(h0, .inr (3, [.ref c0, .ref c1, .int 0, .ref d0, .ref d1, .ref d2, .ref d3, .ref d4, .ref d5, .ref d6, .ref d7, .ref d8])), (d4, .inl (k4, 30, .inl f_90)), (d5, .inl (k5, 30, .inl f_91)), (d6, .inl (k6, 30, .inl f_92)), (d7, .inl (k7, 30, .inl f_93)), (d8, .inl (k8, 30, .inl f_94))] := by rw [ef_94]; exact hD
  exact W.vret hx hb hr (fun t ht hW => ⟨⟨(), rfl, trivial, trivial⟩, hS.F ht⟩) hS.2.2 dX3_openPiece_35
def wo_c_Piece_init : List Cond := [.methodLink RX6 3 objectInit, .instanceMethod objectInit, .code objectInit ⟨#[0xb1]⟩ 1 none]
def wm_c_Piece_init : List Cond := .code yX6_init cX6_init 1 none :: (wo_c_Piece_init ++ ([] : List Cond))
theorem gd_c_Piece_init : ∀ w ∈ wm_c_Piece_init, goodWord w = true := gd_c rfl (gd_a (by decide) gd_nil)
set_option maxRecDepth 20000 in
theorem im_c_Piece_init : ∀ w ∈ wm_c_Piece_init, w ∈ lw_tbl := im_c (in_r [.code yX6_init cX6_init 1 none] [664] (by decide +kernel)) (in_app (in_r wo_c_Piece_init [665, 102, 103] (by decide +kernel)) im_nil)
set_option maxHeartbeats 4000000 in
set_option maxRecDepth 100000 in
theorem c_Piece_init (l : Launch) (dC : Nat → ClassId) (dI : Nat → Nat → Nat) (ad av : Nat → Nat) (sz : Nat) (h0 : Nat) : Met l yX6_init wm_c_Piece_init ({ frames := 1, cells := 0, slots := 0, locals := 12 }) (pr_ ad av (dC, dI) sz [.ref h0] [(h0, .inr (6, [.int 0, .int 0, .int 0, .int 0, .int 0, .int 0, .int 0, .int 0, .int 0, .int 0, .int 0]))] []) (va_Qv (fun (_ : Unit) => True) (fun (_ : Unit) (t : State) => (po_ (dC, dI) (va_A [(h0, .inr (6, [.int 0, .int 0, .int 0, .int 0, .int 0, .int 0, .int 0, .int 0, .int 0, .int 0, .int 0]))] sz) [(h0, .inr (6, [.int 0, .int 0, .int 0, .int 0, .int 0, .int 0, .int 0, .int 0, .int 0, .int 0, .int 0]))] [] t)) (va_A [(h0, .inr (6, [.int 0, .int 0, .int 0, .int 0, .int 0, .int 0, .int 0, .int 0, .int 0, .int 0, .int 0]))] sz)) 0 0 (va_A [(h0, .inr (6, [.int 0, .int 0, .int 0, .int 0, .int 0, .int 0, .int 0, .int 0, .int 0, .int 0, .int 0]))] sz) := by
  refine Met.ofW (cc := cX6_init) (maxL := 1) (ret := none) (by decide) rfl ?_
  intro p e s m args below meth c s₁ B hml hv
  obtain ⟨rfl, hsz, hP, hK, hD0, hM⟩ := hv
  have hx := B.exec
  have hb := B.bytes
  have hr := B.returns
  have hts := atoms_spec (ws := wm_c_Piece_init) B.pre
  have hown : s.vm.findClass RX6 = some m.cls := findClass_of_methodNamed B.named
  have hlocks := B.notSynchronized
  have hin : meth.name = "<init>" := (name_of_methodNamed B.named B.method).1
  subst hsz
  have hD := hD0.self (sz := s.heap.size)
  generalize hAe : va_A [(h0, .inr (6, [.int 0, .int 0, .int 0, .int 0, .int 0, .int 0, .int 0, .int 0, .int 0, .int 0, .int 0]))] s.heap.size = A at hD hM ⊢
  have hA : ∀ q : Nat, s.heap.size ≤ q → A q := fun q h => by rw [← hAe]; exact Or.inr h
  have hS : va_S A s.heap s.heap [] := va_S.rf
  have hP : va_P (dC, dI) vwCl [(h0, .inr (6, [.int 0, .int 0, .int 0, .int 0, .int 0, .int 0, .int 0, .int 0, .int 0, .int 0, .int 0]))] s.heap := hP
  have hl := lv_entry ([.ref h0]) (n := 1) (Nat.le_of_ble_eq_true rfl)
  rw [lg_entry_eq]
  generalize (lg_sl ([.ref h0]) ++ List.replicate (1 - (lg_sl ([.ref h0])).length) Slot.unset).toArray = ls at hl ⊢
  have hl : lv_has ls 1 [(0, .ref h0)] := hl
  refine lv_aload_n hx hb dX6_init_0 rfl (lv_at hl 0 rfl) ?_
  refine W.objInit hx hb hown (hts (.methodLink RX6 3 objectInit) (List.mem_cons_of_mem _ (List.mem_append_left _ (List.mem_of_getElem? (i := 0) rfl)))) (hts (.instanceMethod objectInit) (List.mem_cons_of_mem _ (List.mem_append_left _ (List.mem_of_getElem? (i := 1) rfl)))) (hts (.code objectInit ⟨#[0xb1]⟩ 1 none) (List.mem_cons_of_mem _ (List.mem_append_left _ (List.mem_of_getElem? (i := 2) rfl)))) rfl (by rw [hml]; exact hl.1) rfl dX6_init_1 (Nat.le_of_ble_eq_true rfl) (Nat.le_of_ble_eq_true rfl) ?_
  refine W.eq (g2 := F0 m 4 ls []) rfl ?_
  have hP9 := hP.sub (ws' := [(h0, .inr (6, [.int 0, .int 0, .int 0, .int 0, .int 0, .int 0, .int 0, .int 0, .int 0, .int 0, .int 0]))]) [0] rfl
  have hD9 := hD.sub (ws' := [(h0, .inr (6, [.int 0, .int 0, .int 0, .int 0, .int 0, .int 0, .int 0, .int 0, .int 0, .int 0, .int 0]))]) [0] (by decide) rfl
  have hK9 := hK.sub (tys' := []) [] rfl
  exact W.vret hx hb hr (fun t ht hW => ⟨⟨(), rfl, trivial, ⟨by rw [ht]; exact hP9, va_K.moved hW.alike hK9, hD9⟩⟩, hS.F ht⟩) hS.2.2 dX6_init_4
def wo_c_allWork : List Cond := [.fieldLink RX6 9 "TypingPool$Piece" "lines" "I", .fieldLink RX6 15 "TypingPool$Piece" "copies" "I"]
def wm_c_allWork : List Cond := .code yX6_allWork cX6_allWork 1 (some .int) :: (wo_c_allWork ++ (wsX60 ++ ([] : List Cond)))
theorem gd_c_allWork : ∀ w ∈ wm_c_allWork, goodWord w = true := gd_c rfl (gd_a (by decide) (gd_a gd_wsX60 gd_nil))
set_option maxRecDepth 20000 in
theorem im_c_allWork : ∀ w ∈ wm_c_allWork, w ∈ lw_tbl := im_c (in_r [.code yX6_allWork cX6_allWork 1 (some .int)] [722] (by decide +kernel)) (in_app (in_r wo_c_allWork [670, 689] (by decide +kernel)) (in_app im_wsX60 im_nil))
set_option maxHeartbeats 4000000 in
set_option maxRecDepth 100000 in
theorem c_allWork (l : Launch) (dC : Nat → ClassId) (dI : Nat → Nat → Nat) (ad av : Nat → Nat) (sz : Nat) (h0 : Nat) (v0 : Int32) (v1 : Int32) (v2 : Int32) (v3 : Int32) (v4 : Int32) (v5 : Int32) (v6 : Int32) (v7 : Int32) (v8 : Int32) (v9 : Int32) (v10 : Int32) : Met l yX6_allWork wm_c_allWork ({ frames := 0, cells := 0, slots := 0, locals := 0 }) (pr_ ad av (dC, dI) sz [.ref h0] [(h0, .inr (6, [.int v0, .int v1, .int v2, .int v3, .int v4, .int v5, .int v6, .int v7, .int v8, .int v9, .int v10]))] []) (va_Qi (fun (r u : Int32) => u = r) (fun (r : Int32) (t : State) => (∃ (w : Int32), r = w ∧ po_ (dC, dI) (va_A [(h0, .inr (6, [.int v0, .int v1, .int v2, .int v3, .int v4, .int v5, .int v6, .int v7, .int v8, .int v9, .int v10]))] sz) [(h0, .inr (6, [.int v0, .int v1, .int v2, .int v3, .int v4, .int v5, .int v6, .int v7, .int v8, .int v9, .int v10]))] [] t)) (va_A [(h0, .inr (6, [.int v0, .int v1, .int v2, .int v3, .int v4, .int v5, .int v6, .int v7, .int v8, .int v9, .int v10]))] sz)) 0 0 (va_A [(h0, .inr (6, [.int v0, .int v1, .int v2, .int v3, .int v4, .int v5, .int v6, .int v7, .int v8, .int v9, .int v10]))] sz) := by
  refine Met.ofW (cc := cX6_allWork) (maxL := 1) (ret := (some .int)) (by decide) rfl ?_
  intro p e s m args below meth c s₁ B hml hv
  obtain ⟨rfl, hsz, hP, hK, hD0, hM⟩ := hv
  have hx := B.exec
  have hb := B.bytes
  have hr := B.returns
  have hts := atoms_spec (ws := wm_c_allWork) B.pre
  have hown : s.vm.findClass RX6 = some m.cls := findClass_of_methodNamed B.named
  have hlocks := B.notSynchronized
  subst hsz
  have hD := hD0.self (sz := s.heap.size)
  generalize hAe : va_A [(h0, .inr (6, [.int v0, .int v1, .int v2, .int v3, .int v4, .int v5, .int v6, .int v7, .int v8, .int v9, .int v10]))] s.heap.size = A at hD hM ⊢
  have hA : ∀ q : Nat, s.heap.size ≤ q → A q := fun q h => by rw [← hAe]; exact Or.inr h
  have hS : va_S A s.heap s.heap [] := va_S.rf
  have hP : va_P (dC, dI) vwCl [(h0, .inr (6, [.int v0, .int v1, .int v2, .int v3, .int v4, .int v5, .int v6, .int v7, .int v8, .int v9, .int v10]))] s.heap := hP
  have hl := lv_entry ([.ref h0]) (n := 1) (Nat.le_of_ble_eq_true rfl)
  rw [lg_entry_eq]
  generalize (lg_sl ([.ref h0]) ++ List.replicate (1 - (lg_sl ([.ref h0])).length) Slot.unset).toArray = ls at hl ⊢
  have hl : lv_has ls 1 [(0, .ref h0)] := hl
  refine lv_bipush (v := 60) hx hb dX6_allWork_0 (by decide) ?_
  refine lv_aload_n hx hb dX6_allWork_2 rfl (lv_at hl 0 rfl) ?_
  refine va_get (D := (dC, dI)) (ci := 6) (v := .int v2) (C := RX6) (T := TX6) (N := 11) hx hb hts (fun _ hh => (List.mem_cons_of_mem _ (List.mem_append_right _ (List.mem_append_left _ hh)))) hown hK hP 0 rfl rfl 2 (by decide) (hts (.fieldLink RX6 9 "TypingPool$Piece" "lines" "I") (List.mem_cons_of_mem _ (List.mem_append_left _ (List.mem_of_getElem? (i := 0) rfl)))) (fun _ h9 => h9) rfl dX6_allWork_3 ?_
  refine lv_imul hx hb dX6_allWork_6 ?_
  refine lv_topi (fun x_95 ex_95 => ?_)
  refine lv_iconst (v := 2) hx hb dX6_allWork_7 (by decide) ?_
  refine lv_aload_n hx hb dX6_allWork_8 rfl (lv_at hl 0 rfl) ?_
  refine va_get (D := (dC, dI)) (ci := 6) (v := .int v2) (C := RX6) (T := TX6) (N := 11) hx hb hts (fun _ hh => (List.mem_cons_of_mem _ (List.mem_append_right _ (List.mem_append_left _ hh)))) hown hK hP 0 rfl rfl 2 (by decide) (hts (.fieldLink RX6 9 "TypingPool$Piece" "lines" "I") (List.mem_cons_of_mem _ (List.mem_append_left _ (List.mem_of_getElem? (i := 0) rfl)))) (fun _ h9 => h9) rfl dX6_allWork_9 ?_
  refine lv_imul hx hb dX6_allWork_12 ?_
  refine lv_topi (fun x_96 ex_96 => ?_)
  refine lv_aload_n hx hb dX6_allWork_13 rfl (lv_at hl 0 rfl) ?_
  refine va_get (D := (dC, dI)) (ci := 6) (v := .int v8) (C := RX6) (T := TX6) (N := 11) hx hb hts (fun _ hh => (List.mem_cons_of_mem _ (List.mem_append_right _ (List.mem_append_left _ hh)))) hown hK hP 0 rfl rfl 8 (by decide) (hts (.fieldLink RX6 15 "TypingPool$Piece" "copies" "I") (List.mem_cons_of_mem _ (List.mem_append_left _ (List.mem_of_getElem? (i := 1) rfl)))) (fun _ h9 => h9) rfl dX6_allWork_14 ?_
  refine lv_imul hx hb dX6_allWork_17 ?_
  refine lv_topi (fun x_97 ex_97 => ?_)
  refine lv_iadd hx hb dX6_allWork_18 ?_
  refine lv_topi (fun x_98 ex_98 => ?_)
  have hP9 := hP.sub (ws' := [(h0, .inr (6, [.int v0, .int v1, .int v2, .int v3, .int v4, .int v5, .int v6, .int v7, .int v8, .int v9, .int v10]))]) [0] rfl
  have hD9 := hD.sub (ws' := [(h0, .inr (6, [.int v0, .int v1, .int v2, .int v3, .int v4, .int v5, .int v6, .int v7, .int v8, .int v9, .int v10]))]) [0] (by decide) rfl
  have hK9 := hK.sub (tys' := []) [] rfl
  exact W.iret (v := x_98) hx hb hr (fun t ht hW => ⟨⟨x_98, x_98, rfl, rfl, ⟨x_98, rfl, by rw [ht]; exact hP9, va_K.moved hW.alike hK9, hD9⟩⟩, hS.F ht⟩) hS.2.2 dX6_allWork_19
def wo_c_inState0 : List Cond := [.fieldLink RX3 43 "TypingPool$Floor" "book" "LTypingPool$Book;", .fieldLink RX3 85 "TypingPool$Book" "pieceCount" "I"]
def wm_c_inState0 : List Cond := .code yX3_inState cX3_inState 4 (some .int) :: (wo_c_inState0 ++ (wsX30 ++ (wsX10 ++ ([] : List Cond))))
theorem gd_c_inState0 : ∀ w ∈ wm_c_inState0, goodWord w = true := gd_c rfl (gd_a (by decide) (gd_a gd_wsX30 (gd_a gd_wsX10 gd_nil)))
set_option maxRecDepth 20000 in
theorem im_c_inState0 : ∀ w ∈ wm_c_inState0, w ∈ lw_tbl := im_c (in_r [.code yX3_inState cX3_inState 4 (some .int)] [890] (by decide +kernel)) (in_app (in_r wo_c_inState0 [426, 134] (by decide +kernel)) (in_app im_wsX30 (in_app im_wsX10 im_nil)))
set_option maxHeartbeats 4000000 in
set_option maxRecDepth 100000 in
theorem c_inState0 (l : Launch) (dC : Nat → ClassId) (dI : Nat → Nat → Nat) (ad av : Nat → Nat) (sz : Nat) (h0 : Nat) (bo : Nat) (c1 : Nat) (d0 : Nat) (d1 : Nat) (d2 : Nat) (d3 : Nat) (d4 : Nat) (d5 : Nat) (d6 : Nat) (d7 : Nat) (d8 : Nat) (b0 : Nat) (b1 : Nat) (b2 : Nat) (b3 : Nat) (nw : Int32) (p0 : Int32) : Met l yX3_inState wm_c_inState0 ({ frames := 0, cells := 0, slots := 0, locals := 0 }) (pr_ ad av (dC, dI) sz [.ref h0, .int p0] [(h0, .inr (3, [.ref bo, .ref c1, .int nw, .ref d0, .ref d1, .ref d2, .ref d3, .ref d4, .ref d5, .ref d6, .ref d7, .ref d8])), (bo, .inr (1, [.ref b0, .int 0, .ref b1, .int 0, .ref b2, .int 0, .ref b3, .int 0]))] []) (va_Qi (fun (r u : Int32) => u = r) (fun (r : Int32) (t : State) => (r = 0 ∧ po_ (dC, dI) (va_A [(h0, .inr (3, [.ref bo, .ref c1, .int nw, .ref d0, .ref d1, .ref d2, .ref d3, .ref d4, .ref d5, .ref d6, .ref d7, .ref d8])), (bo, .inr (1, [.ref b0, .int 0, .ref b1, .int 0, .ref b2, .int 0, .ref b3, .int 0]))] sz) [(h0, .inr (3, [.ref bo, .ref c1, .int nw, .ref d0, .ref d1, .ref d2, .ref d3, .ref d4, .ref d5, .ref d6, .ref d7, .ref d8])), (bo, .inr (1, [.ref b0, .int 0, .ref b1, .int 0, .ref b2, .int 0, .ref b3, .int 0]))] [] t)) (va_A [(h0, .inr (3, [.ref bo, .ref c1, .int nw, .ref d0, .ref d1, .ref d2, .ref d3, .ref d4, .ref d5, .ref d6, .ref d7, .ref d8])), (bo, .inr (1, [.ref b0, .int 0, .ref b1, .int 0, .ref b2, .int 0, .ref b3, .int 0]))] sz)) 0 0 (va_A [(h0, .inr (3, [.ref bo, .ref c1, .int nw, .ref d0, .ref d1, .ref d2, .ref d3, .ref d4, .ref d5, .ref d6, .ref d7, .ref d8])), (bo, .inr (1, [.ref b0, .int 0, .ref b1, .int 0, .ref b2, .int 0, .ref b3, .int 0]))] sz) := by
  refine Met.ofW (cc := cX3_inState) (maxL := 4) (ret := (some .int)) (by decide) rfl ?_
  intro p e s m args below meth c s₁ B hml hv
  obtain ⟨rfl, hsz, hP, hK, hD0, hM⟩ := hv
  have hx := B.exec
  have hb := B.bytes
  have hr := B.returns
  have hts := atoms_spec (ws := wm_c_inState0) B.pre
  have hown : s.vm.findClass RX3 = some m.cls := findClass_of_methodNamed B.named
  have hlocks := B.notSynchronized
  subst hsz
  have hD := hD0.self (sz := s.heap.size)
  generalize hAe : va_A [(h0, .inr (3, [.ref bo, .ref c1, .int nw, .ref d0, .ref d1, .ref d2, .ref d3, .ref d4, .ref d5, .ref d6, .ref d7, .ref d8])), (bo, .inr (1, [.ref b0, .int 0, .ref b1, .int 0, .ref b2, .int 0, .ref b3, .int 0]))] s.heap.size = A at hD hM ⊢
  have hA : ∀ q : Nat, s.heap.size ≤ q → A q := fun q h => by rw [← hAe]; exact Or.inr h
  have hS : va_S A s.heap s.heap [] := va_S.rf
  have hP : va_P (dC, dI) vwCl [(h0, .inr (3, [.ref bo, .ref c1, .int nw, .ref d0, .ref d1, .ref d2, .ref d3, .ref d4, .ref d5, .ref d6, .ref d7, .ref d8])), (bo, .inr (1, [.ref b0, .int 0, .ref b1, .int 0, .ref b2, .int 0, .ref b3, .int 0]))] s.heap := hP
  have hl := lv_entry ([.ref h0, .int p0]) (n := 4) (Nat.le_of_ble_eq_true rfl)
  rw [lg_entry_eq]
  generalize (lg_sl ([.ref h0, .int p0]) ++ List.replicate (4 - (lg_sl ([.ref h0, .int p0])).length) Slot.unset).toArray = ls at hl ⊢
  have hl : lv_has ls 4 [(0, .ref h0), (1, .int p0)] := hl
  refine lv_iconst (v := 0) hx hb dX3_inState_0 (by decide) ?_
  refine lv_istore_n (lv' := [(2, .int 0), (0, .ref h0), (1, .int p0)]) hx hb dX3_inState_1 rfl hl (by decide) rfl (fun ls hl => ?_)
  refine lv_iconst (v := 0) hx hb dX3_inState_2 (by decide) ?_
  refine lv_istore_n (lv' := [(3, .int 0), (2, .int 0), (0, .ref h0), (1, .int p0)]) hx hb dX3_inState_3 rfl hl (by decide) rfl (fun ls hl => ?_)
  refine lv_iload_n hx hb dX3_inState_4 rfl (lv_at hl 0 rfl) ?_
  refine lv_aload_n hx hb dX3_inState_5 rfl (lv_at hl 2 rfl) ?_
  refine va_get (D := (dC, dI)) (ci := 3) (v := .ref bo) (C := RX3) (T := TX3) (N := 12) hx hb hts (fun _ hh => (List.mem_cons_of_mem _ (List.mem_append_right _ (List.mem_append_left _ hh)))) hown hK hP 0 rfl rfl 0 (by decide) (hts (.fieldLink RX3 43 "TypingPool$Floor" "book" "LTypingPool$Book;") (List.mem_cons_of_mem _ (List.mem_append_left _ (List.mem_of_getElem? (i := 0) rfl)))) (fun _ h9 => h9) rfl dX3_inState_6 ?_
  refine va_get (D := (dC, dI)) (ci := 1) (v := .int 0) (C := RX1) (T := TX1) (N := 8) hx hb hts (fun _ hh => (List.mem_cons_of_mem _ (List.mem_append_right _ (List.mem_append_right _ (List.mem_append_left _ hh))))) hown hK hP 1 rfl rfl 5 (by decide) (hts (.fieldLink RX3 85 "TypingPool$Book" "pieceCount" "I") (List.mem_cons_of_mem _ (List.mem_append_left _ (List.mem_of_getElem? (i := 1) rfl)))) (fun _ h9 => h9) rfl dX3_inState_9 ?_
  refine lv_icmp_ge (tgt := 33) hx hb dX3_inState_12 (by decide) (fun c_235 => ?_) (fun c_235 => absurd c_235 (fun z => z (by decide)))
  refine lv_iload_n hx hb dX3_inState_33 rfl (lv_at hl 1 rfl) ?_
  have hP9 := hP.sub (ws' := [(h0, .inr (3, [.ref bo, .ref c1, .int nw, .ref d0, .ref d1, .ref d2, .ref d3, .ref d4, .ref d5, .ref d6, .ref d7, .ref d8])), (bo, .inr (1, [.ref b0, .int 0, .ref b1, .int 0, .ref b2, .int 0, .ref b3, .int 0]))]) [0, 1] rfl
  have hD9 := hD.sub (ws' := [(h0, .inr (3, [.ref bo, .ref c1, .int nw, .ref d0, .ref d1, .ref d2, .ref d3, .ref d4, .ref d5, .ref d6, .ref d7, .ref d8])), (bo, .inr (1, [.ref b0, .int 0, .ref b1, .int 0, .ref b2, .int 0, .ref b3, .int 0]))]) [0, 1] (by decide) rfl
  have hK9 := hK.sub (tys' := []) [] rfl
  exact W.iret (v := 0) hx hb hr (fun t ht hW => ⟨⟨0, 0, rfl, rfl, ⟨rfl, by rw [ht]; exact hP9, va_K.moved hW.alike hK9, hD9⟩⟩, hS.F ht⟩) hS.2.2 dX3_inState_34
def wo_c_lateOnes0 : List Cond := [.fieldLink RX3 43 "TypingPool$Floor" "book" "LTypingPool$Book;", .fieldLink RX3 85 "TypingPool$Book" "pieceCount" "I"]
def wm_c_lateOnes0 : List Cond := .code yX3_lateOnes cX3_lateOnes 3 (some .int) :: (wo_c_lateOnes0 ++ (wsX30 ++ (wsX10 ++ ([] : List Cond))))
theorem gd_c_lateOnes0 : ∀ w ∈ wm_c_lateOnes0, goodWord w = true := gd_c rfl (gd_a (by decide) (gd_a gd_wsX30 (gd_a gd_wsX10 gd_nil)))
set_option maxRecDepth 20000 in
theorem im_c_lateOnes0 : ∀ w ∈ wm_c_lateOnes0, w ∈ lw_tbl := im_c (in_r [.code yX3_lateOnes cX3_lateOnes 3 (some .int)] [894] (by decide +kernel)) (in_app (in_r wo_c_lateOnes0 [426, 134] (by decide +kernel)) (in_app im_wsX30 (in_app im_wsX10 im_nil)))
set_option maxHeartbeats 4000000 in
set_option maxRecDepth 100000 in
theorem c_lateOnes0 (l : Launch) (dC : Nat → ClassId) (dI : Nat → Nat → Nat) (ad av : Nat → Nat) (sz : Nat) (h0 : Nat) (bo : Nat) (c1 : Nat) (d0 : Nat) (d1 : Nat) (d2 : Nat) (d3 : Nat) (d4 : Nat) (d5 : Nat) (d6 : Nat) (d7 : Nat) (d8 : Nat) (b0 : Nat) (b1 : Nat) (b2 : Nat) (b3 : Nat) (nw : Int32) : Met l yX3_lateOnes wm_c_lateOnes0 ({ frames := 0, cells := 0, slots := 0, locals := 0 }) (pr_ ad av (dC, dI) sz [.ref h0] [(h0, .inr (3, [.ref bo, .ref c1, .int nw, .ref d0, .ref d1, .ref d2, .ref d3, .ref d4, .ref d5, .ref d6, .ref d7, .ref d8])), (bo, .inr (1, [.ref b0, .int 0, .ref b1, .int 0, .ref b2, .int 0, .ref b3, .int 0]))] []) (va_Qi (fun (r u : Int32) => u = r) (fun (r : Int32) (t : State) => (r = 0 ∧ po_ (dC, dI) (va_A [(h0, .inr (3, [.ref bo, .ref c1, .int nw, .ref d0, .ref d1, .ref d2, .ref d3, .ref d4, .ref d5, .ref d6, .ref d7, .ref d8])), (bo, .inr (1, [.ref b0, .int 0, .ref b1, .int 0, .ref b2, .int 0, .ref b3, .int 0]))] sz) [(h0, .inr (3, [.ref bo, .ref c1, .int nw, .ref d0, .ref d1, .ref d2, .ref d3, .ref d4, .ref d5, .ref d6, .ref d7, .ref d8])), (bo, .inr (1, [.ref b0, .int 0, .ref b1, .int 0, .ref b2, .int 0, .ref b3, .int 0]))] [] t)) (va_A [(h0, .inr (3, [.ref bo, .ref c1, .int nw, .ref d0, .ref d1, .ref d2, .ref d3, .ref d4, .ref d5, .ref d6, .ref d7, .ref d8])), (bo, .inr (1, [.ref b0, .int 0, .ref b1, .int 0, .ref b2, .int 0, .ref b3, .int 0]))] sz)) 0 0 (va_A [(h0, .inr (3, [.ref bo, .ref c1, .int nw, .ref d0, .ref d1, .ref d2, .ref d3, .ref d4, .ref d5, .ref d6, .ref d7, .ref d8])), (bo, .inr (1, [.ref b0, .int 0, .ref b1, .int 0, .ref b2, .int 0, .ref b3, .int 0]))] sz) := by
  refine Met.ofW (cc := cX3_lateOnes) (maxL := 3) (ret := (some .int)) (by decide) rfl ?_
  intro p e s m args below meth c s₁ B hml hv
  obtain ⟨rfl, hsz, hP, hK, hD0, hM⟩ := hv
  have hx := B.exec
  have hb := B.bytes
  have hr := B.returns
  have hts := atoms_spec (ws := wm_c_lateOnes0) B.pre
  have hown : s.vm.findClass RX3 = some m.cls := findClass_of_methodNamed B.named
  have hlocks := B.notSynchronized
  subst hsz
  have hD := hD0.self (sz := s.heap.size)
  generalize hAe : va_A [(h0, .inr (3, [.ref bo, .ref c1, .int nw, .ref d0, .ref d1, .ref d2, .ref d3, .ref d4, .ref d5, .ref d6, .ref d7, .ref d8])), (bo, .inr (1, [.ref b0, .int 0, .ref b1, .int 0, .ref b2, .int 0, .ref b3, .int 0]))] s.heap.size = A at hD hM ⊢
  have hA : ∀ q : Nat, s.heap.size ≤ q → A q := fun q h => by rw [← hAe]; exact Or.inr h
  have hS : va_S A s.heap s.heap [] := va_S.rf
  have hP : va_P (dC, dI) vwCl [(h0, .inr (3, [.ref bo, .ref c1, .int nw, .ref d0, .ref d1, .ref d2, .ref d3, .ref d4, .ref d5, .ref d6, .ref d7, .ref d8])), (bo, .inr (1, [.ref b0, .int 0, .ref b1, .int 0, .ref b2, .int 0, .ref b3, .int 0]))] s.heap := hP
  have hl := lv_entry ([.ref h0]) (n := 3) (Nat.le_of_ble_eq_true rfl)
  rw [lg_entry_eq]
  generalize (lg_sl ([.ref h0]) ++ List.replicate (3 - (lg_sl ([.ref h0])).length) Slot.unset).toArray = ls at hl ⊢
  have hl : lv_has ls 3 [(0, .ref h0)] := hl
  refine lv_iconst (v := 0) hx hb dX3_lateOnes_0 (by decide) ?_
  refine lv_istore_n (lv' := [(1, .int 0), (0, .ref h0)]) hx hb dX3_lateOnes_1 rfl hl (by decide) rfl (fun ls hl => ?_)
  refine lv_iconst (v := 0) hx hb dX3_lateOnes_2 (by decide) ?_
  refine lv_istore_n (lv' := [(2, .int 0), (1, .int 0), (0, .ref h0)]) hx hb dX3_lateOnes_3 rfl hl (by decide) rfl (fun ls hl => ?_)
  refine lv_iload_n hx hb dX3_lateOnes_4 rfl (lv_at hl 0 rfl) ?_
  refine lv_aload_n hx hb dX3_lateOnes_5 rfl (lv_at hl 2 rfl) ?_
  refine va_get (D := (dC, dI)) (ci := 3) (v := .ref bo) (C := RX3) (T := TX3) (N := 12) hx hb hts (fun _ hh => (List.mem_cons_of_mem _ (List.mem_append_right _ (List.mem_append_left _ hh)))) hown hK hP 0 rfl rfl 0 (by decide) (hts (.fieldLink RX3 43 "TypingPool$Floor" "book" "LTypingPool$Book;") (List.mem_cons_of_mem _ (List.mem_append_left _ (List.mem_of_getElem? (i := 0) rfl)))) (fun _ h9 => h9) rfl dX3_lateOnes_6 ?_
  refine va_get (D := (dC, dI)) (ci := 1) (v := .int 0) (C := RX1) (T := TX1) (N := 8) hx hb hts (fun _ hh => (List.mem_cons_of_mem _ (List.mem_append_right _ (List.mem_append_right _ (List.mem_append_left _ hh))))) hown hK hP 1 rfl rfl 5 (by decide) (hts (.fieldLink RX3 85 "TypingPool$Book" "pieceCount" "I") (List.mem_cons_of_mem _ (List.mem_append_left _ (List.mem_of_getElem? (i := 1) rfl)))) (fun _ h9 => h9) rfl dX3_lateOnes_9 ?_
  refine lv_icmp_ge (tgt := 32) hx hb dX3_lateOnes_12 (by decide) (fun c_236 => ?_) (fun c_236 => absurd c_236 (fun z => z (by decide)))
  refine lv_iload_n hx hb dX3_lateOnes_32 rfl (lv_at hl 1 rfl) ?_
  have hP9 := hP.sub (ws' := [(h0, .inr (3, [.ref bo, .ref c1, .int nw, .ref d0, .ref d1, .ref d2, .ref d3, .ref d4, .ref d5, .ref d6, .ref d7, .ref d8])), (bo, .inr (1, [.ref b0, .int 0, .ref b1, .int 0, .ref b2, .int 0, .ref b3, .int 0]))]) [0, 1] rfl
  have hD9 := hD.sub (ws' := [(h0, .inr (3, [.ref bo, .ref c1, .int nw, .ref d0, .ref d1, .ref d2, .ref d3, .ref d4, .ref d5, .ref d6, .ref d7, .ref d8])), (bo, .inr (1, [.ref b0, .int 0, .ref b1, .int 0, .ref b2, .int 0, .ref b3, .int 0]))]) [0, 1] (by decide) rfl
  have hK9 := hK.sub (tys' := []) [] rfl
  exact W.iret (v := 0) hx hb hr (fun t ht hW => ⟨⟨0, 0, rfl, rfl, ⟨rfl, by rw [ht]; exact hP9, va_K.moved hW.alike hK9, hD9⟩⟩, hS.F ht⟩) hS.2.2 dX3_lateOnes_33
def wo_c_waitedIn0 : List Cond := [.fieldLink RX3 43 "TypingPool$Floor" "book" "LTypingPool$Book;", .fieldLink RX3 85 "TypingPool$Book" "pieceCount" "I"]
def wm_c_waitedIn0 : List Cond := .code yX3_waitedIn cX3_waitedIn 4 (some .int) :: (wo_c_waitedIn0 ++ (wsX30 ++ (wsX10 ++ ([] : List Cond))))
theorem gd_c_waitedIn0 : ∀ w ∈ wm_c_waitedIn0, goodWord w = true := gd_c rfl (gd_a (by decide) (gd_a gd_wsX30 (gd_a gd_wsX10 gd_nil)))
set_option maxRecDepth 20000 in
theorem im_c_waitedIn0 : ∀ w ∈ wm_c_waitedIn0, w ∈ lw_tbl := im_c (in_r [.code yX3_waitedIn cX3_waitedIn 4 (some .int)] [1010] (by decide +kernel)) (in_app (in_r wo_c_waitedIn0 [426, 134] (by decide +kernel)) (in_app im_wsX30 (in_app im_wsX10 im_nil)))
set_option maxHeartbeats 4000000 in
set_option maxRecDepth 100000 in
theorem c_waitedIn0 (l : Launch) (dC : Nat → ClassId) (dI : Nat → Nat → Nat) (ad av : Nat → Nat) (sz : Nat) (h0 : Nat) (bo : Nat) (c1 : Nat) (d0 : Nat) (d1 : Nat) (d2 : Nat) (d3 : Nat) (d4 : Nat) (d5 : Nat) (d6 : Nat) (d7 : Nat) (d8 : Nat) (b0 : Nat) (b1 : Nat) (b2 : Nat) (b3 : Nat) (nw : Int32) (p0 : Int32) : Met l yX3_waitedIn wm_c_waitedIn0 ({ frames := 0, cells := 0, slots := 0, locals := 0 }) (pr_ ad av (dC, dI) sz [.ref h0, .int p0] [(h0, .inr (3, [.ref bo, .ref c1, .int nw, .ref d0, .ref d1, .ref d2, .ref d3, .ref d4, .ref d5, .ref d6, .ref d7, .ref d8])), (bo, .inr (1, [.ref b0, .int 0, .ref b1, .int 0, .ref b2, .int 0, .ref b3, .int 0]))] []) (va_Qi (fun (r u : Int32) => u = r) (fun (r : Int32) (t : State) => (r = 0 ∧ po_ (dC, dI) (va_A [(h0, .inr (3, [.ref bo, .ref c1, .int nw, .ref d0, .ref d1, .ref d2, .ref d3, .ref d4, .ref d5, .ref d6, .ref d7, .ref d8])), (bo, .inr (1, [.ref b0, .int 0, .ref b1, .int 0, .ref b2, .int 0, .ref b3, .int 0]))] sz) [(h0, .inr (3, [.ref bo, .ref c1, .int nw, .ref d0, .ref d1, .ref d2, .ref d3, .ref d4, .ref d5, .ref d6, .ref d7, .ref d8])), (bo, .inr (1, [.ref b0, .int 0, .ref b1, .int 0, .ref b2, .int 0, .ref b3, .int 0]))] [] t)) (va_A [(h0, .inr (3, [.ref bo, .ref c1, .int nw, .ref d0, .ref d1, .ref d2, .ref d3, .ref d4, .ref d5, .ref d6, .ref d7, .ref d8])), (bo, .inr (1, [.ref b0, .int 0, .ref b1, .int 0, .ref b2, .int 0, .ref b3, .int 0]))] sz)) 0 0 (va_A [(h0, .inr (3, [.ref bo, .ref c1, .int nw, .ref d0, .ref d1, .ref d2, .ref d3, .ref d4, .ref d5, .ref d6, .ref d7, .ref d8])), (bo, .inr (1, [.ref b0, .int 0, .ref b1, .int 0, .ref b2, .int 0, .ref b3, .int 0]))] sz) := by
  refine Met.ofW (cc := cX3_waitedIn) (maxL := 4) (ret := (some .int)) (by decide) rfl ?_
  intro p e s m args below meth c s₁ B hml hv
  obtain ⟨rfl, hsz, hP, hK, hD0, hM⟩ := hv
  have hx := B.exec
  have hb := B.bytes
  have hr := B.returns
  have hts := atoms_spec (ws := wm_c_waitedIn0) B.pre
  have hown : s.vm.findClass RX3 = some m.cls := findClass_of_methodNamed B.named
  have hlocks := B.notSynchronized
  subst hsz
  have hD := hD0.self (sz := s.heap.size)
  generalize hAe : va_A [(h0, .inr (3, [.ref bo, .ref c1, .int nw, .ref d0, .ref d1, .ref d2, .ref d3, .ref d4, .ref d5, .ref d6, .ref d7, .ref d8])), (bo, .inr (1, [.ref b0, .int 0, .ref b1, .int 0, .ref b2, .int 0, .ref b3, .int 0]))] s.heap.size = A at hD hM ⊢
  have hA : ∀ q : Nat, s.heap.size ≤ q → A q := fun q h => by rw [← hAe]; exact Or.inr h
  have hS : va_S A s.heap s.heap [] := va_S.rf
  have hP : va_P (dC, dI) vwCl [(h0, .inr (3, [.ref bo, .ref c1, .int nw, .ref d0, .ref d1, .ref d2, .ref d3, .ref d4, .ref d5, .ref d6, .ref d7, .ref d8])), (bo, .inr (1, [.ref b0, .int 0, .ref b1, .int 0, .ref b2, .int 0, .ref b3, .int 0]))] s.heap := hP
  have hl := lv_entry ([.ref h0, .int p0]) (n := 4) (Nat.le_of_ble_eq_true rfl)
  rw [lg_entry_eq]
  generalize (lg_sl ([.ref h0, .int p0]) ++ List.replicate (4 - (lg_sl ([.ref h0, .int p0])).length) Slot.unset).toArray = ls at hl ⊢
  have hl : lv_has ls 4 [(0, .ref h0), (1, .int p0)] := hl
  refine lv_iconst (v := 0) hx hb dX3_waitedIn_0 (by decide) ?_
  refine lv_istore_n (lv' := [(2, .int 0), (0, .ref h0), (1, .int p0)]) hx hb dX3_waitedIn_1 rfl hl (by decide) rfl (fun ls hl => ?_)
  refine lv_iconst (v := 0) hx hb dX3_waitedIn_2 (by decide) ?_
  refine lv_istore_n (lv' := [(3, .int 0), (2, .int 0), (0, .ref h0), (1, .int p0)]) hx hb dX3_waitedIn_3 rfl hl (by decide) rfl (fun ls hl => ?_)
  refine lv_iload_n hx hb dX3_waitedIn_4 rfl (lv_at hl 0 rfl) ?_
  refine lv_aload_n hx hb dX3_waitedIn_5 rfl (lv_at hl 2 rfl) ?_
  refine va_get (D := (dC, dI)) (ci := 3) (v := .ref bo) (C := RX3) (T := TX3) (N := 12) hx hb hts (fun _ hh => (List.mem_cons_of_mem _ (List.mem_append_right _ (List.mem_append_left _ hh)))) hown hK hP 0 rfl rfl 0 (by decide) (hts (.fieldLink RX3 43 "TypingPool$Floor" "book" "LTypingPool$Book;") (List.mem_cons_of_mem _ (List.mem_append_left _ (List.mem_of_getElem? (i := 0) rfl)))) (fun _ h9 => h9) rfl dX3_waitedIn_6 ?_
  refine va_get (D := (dC, dI)) (ci := 1) (v := .int 0) (C := RX1) (T := TX1) (N := 8) hx hb hts (fun _ hh => (List.mem_cons_of_mem _ (List.mem_append_right _ (List.mem_append_right _ (List.mem_append_left _ hh))))) hown hK hP 1 rfl rfl 5 (by decide) (hts (.fieldLink RX3 85 "TypingPool$Book" "pieceCount" "I") (List.mem_cons_of_mem _ (List.mem_append_left _ (List.mem_of_getElem? (i := 1) rfl)))) (fun _ h9 => h9) rfl dX3_waitedIn_9 ?_
  refine lv_icmp_ge (tgt := 69) hx hb dX3_waitedIn_12 (by decide) (fun c_237 => ?_) (fun c_237 => absurd c_237 (fun z => z (by decide)))
  refine lv_iload_n hx hb dX3_waitedIn_69 rfl (lv_at hl 1 rfl) ?_
  have hP9 := hP.sub (ws' := [(h0, .inr (3, [.ref bo, .ref c1, .int nw, .ref d0, .ref d1, .ref d2, .ref d3, .ref d4, .ref d5, .ref d6, .ref d7, .ref d8])), (bo, .inr (1, [.ref b0, .int 0, .ref b1, .int 0, .ref b2, .int 0, .ref b3, .int 0]))]) [0, 1] rfl
  have hD9 := hD.sub (ws' := [(h0, .inr (3, [.ref bo, .ref c1, .int nw, .ref d0, .ref d1, .ref d2, .ref d3, .ref d4, .ref d5, .ref d6, .ref d7, .ref d8])), (bo, .inr (1, [.ref b0, .int 0, .ref b1, .int 0, .ref b2, .int 0, .ref b3, .int 0]))]) [0, 1] (by decide) rfl
  have hK9 := hK.sub (tys' := []) [] rfl
  exact W.iret (v := 0) hx hb hr (fun t ht hW => ⟨⟨0, 0, rfl, rfl, ⟨rfl, by rw [ht]; exact hP9, va_K.moved hW.alike hK9, hD9⟩⟩, hS.F ht⟩) hS.2.2 dX3_waitedIn_70
