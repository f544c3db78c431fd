def wo_r_isDigit : List Cond := []
def wm_r_isDigit : List Cond := .code yX8_isDigit cX8_isDigit 1 (some .boolean) :: (wo_r_isDigit ++ ([] : List Cond))
theorem gd_r_isDigit : ∀ w ∈ wm_r_isDigit, goodWord w = true := gd_c rfl (gd_a (by decide) gd_nil)
set_option maxRecDepth 20000 in
theorem im_r_isDigit : ∀ w ∈ wm_r_isDigit, w ∈ lw_tbl := im_c (in_r [.code yX8_isDigit cX8_isDigit 1 (some .boolean)] [332] (by decide +kernel)) (in_app (in_r wo_r_isDigit [] (by decide +kernel)) im_nil)
set_option maxHeartbeats 4000000 in
set_option maxRecDepth 100000 in
theorem r_isDigit (l : Launch) (dC : Nat → ClassId) (dI : Nat → Nat → Nat) (ad av : Nat → Nat) (sz : Nat) (p0 : Int32) : Met l yX8_isDigit wm_r_isDigit ({ frames := 0, cells := 0, slots := 0, locals := 0 }) (pr_ ad av (dC, dI) sz [.int p0] [] []) (va_Qi (fun (r u : Int32) => u = r) (fun (r : Int32) (t : State) => (r = 1 ∧ po_ (dC, dI) (va_A [] sz) [] [] t) ∨ (r = 0 ∧ po_ (dC, dI) (va_A [] sz) [] [] t)) (va_A [] sz)) 0 0 (va_A [] sz) := by
  refine Met.ofW (cc := cX8_isDigit) (maxL := 1) (ret := (some .boolean)) (by decide) rfl ?_
  intro p e s m args below meth c s₁ B hml hv
  obtain ⟨rfl, hsz, hP, hK, hD0, hM⟩ := hv
  have hx := B.exec
  have hb := B.bytes
  have hr := B.returns
  have hts := atoms_spec (ws := wm_r_isDigit) B.pre
  have hown : s.vm.findClass RX8 = some m.cls := findClass_of_methodNamed B.named
  have hlocks := B.notSynchronized
  subst hsz
  have hD := hD0.self (sz := s.heap.size)
  generalize hAe : va_A [] s.heap.size = A at hD hM ⊢
  have hA : ∀ q : Nat, s.heap.size ≤ q → A q := fun q h => by rw [← hAe]; exact Or.inr h
  have hS : va_S A s.heap s.heap [] := va_S.rf
  have hP : va_P (dC, dI) vwCl [] s.heap := hP
  have hl := lv_entry ([.int p0]) (n := 1) (Nat.le_of_ble_eq_true rfl)
  rw [lg_entry_eq]
  generalize (lg_sl ([.int p0]) ++ List.replicate (1 - (lg_sl ([.int p0])).length) Slot.unset).toArray = ls at hl ⊢
  have hl : lv_has ls 1 [(0, .int p0)] := hl
  refine lv_iload_n hx hb dX8_isDigit_0 rfl (lv_at hl 0 rfl) ?_
  refine lv_bipush (v := 48) hx hb dX8_isDigit_1 (by decide) ?_
  refine lv_icmp_lt (tgt := 16) hx hb dX8_isDigit_3 (by decide) (fun c_1 => ?_) (fun c_1 => ?_)
  · refine lv_iconst (v := 0) hx hb dX8_isDigit_16 (by decide) ?_
    have hP9 := hP.sub (ws' := []) [] rfl
    have hD9 := hD.sub (ws' := []) [] (by decide) rfl
    have hK9 := hK.sub (tys' := []) [] rfl
    exact W.zret (v := 0) hx hb hr (by decide) (fun t ht hW => ⟨⟨0, 0, rfl, rfl, Or.inr (⟨rfl, by rw [ht]; exact hP9, va_K.moved hW.alike hK9, hD9⟩)⟩, hS.F ht⟩) hS.2.2 dX8_isDigit_17
  · refine lv_iload_n hx hb dX8_isDigit_6 rfl (lv_at hl 0 rfl) ?_
    refine lv_bipush (v := 57) hx hb dX8_isDigit_7 (by decide) ?_
    refine lv_icmp_gt (tgt := 16) hx hb dX8_isDigit_9 (by decide) (fun c_2 => ?_) (fun c_2 => ?_)
    · refine lv_iconst (v := 0) hx hb dX8_isDigit_16 (by decide) ?_
      have hP9 := hP.sub (ws' := []) [] rfl
      have hD9 := hD.sub (ws' := []) [] (by decide) rfl
      have hK9 := hK.sub (tys' := []) [] rfl
      exact W.zret (v := 0) hx hb hr (by decide) (fun t ht hW => ⟨⟨0, 0, rfl, rfl, Or.inr (⟨rfl, by rw [ht]; exact hP9, va_K.moved hW.alike hK9, hD9⟩)⟩, hS.F ht⟩) hS.2.2 dX8_isDigit_17
    · refine lv_iconst (v := 1) hx hb dX8_isDigit_12 (by decide) ?_
      refine lv_goto (tgt := 17) hx hb dX8_isDigit_13 (by decide) ?_
      have hP9 := hP.sub (ws' := []) [] rfl
      have hD9 := hD.sub (ws' := []) [] (by decide) rfl
      have hK9 := hK.sub (tys' := []) [] rfl
      exact W.zret (v := 1) hx hb hr (by decide) (fun t ht hW => ⟨⟨1, 1, rfl, rfl, Or.inl ⟨rfl, by rw [ht]; exact hP9, va_K.moved hW.alike hK9, hD9⟩⟩, hS.F ht⟩) hS.2.2 dX8_isDigit_17
def wo_r_binding : List Cond := []
def wm_r_binding : List Cond := .code yX8_binding cX8_binding 1 (some .int) :: (wo_r_binding ++ ([] : List Cond))
theorem gd_r_binding : ∀ w ∈ wm_r_binding, goodWord w = true := gd_c rfl (gd_a (by decide) gd_nil)
set_option maxRecDepth 20000 in
theorem im_r_binding : ∀ w ∈ wm_r_binding, w ∈ lw_tbl := im_c (in_r [.code yX8_binding cX8_binding 1 (some .int)] [359] (by decide +kernel)) (in_app (in_r wo_r_binding [] (by decide +kernel)) im_nil)
set_option maxHeartbeats 4000000 in
set_option maxRecDepth 100000 in
theorem r_binding (l : Launch) (dC : Nat → ClassId) (dI : Nat → Nat → Nat) (ad av : Nat → Nat) (sz : Nat) (p0 : Int32) : Met l yX8_binding wm_r_binding ({ frames := 0, cells := 0, slots := 0, locals := 0 }) (pr_ ad av (dC, dI) sz [.int p0] [] []) (va_Qi (fun (r u : Int32) => u = r) (fun (r : Int32) (t : State) => (∃ (r9 : Int32), r = r9 ∧ po_ (dC, dI) (va_A [] sz) [] [] t)) (va_A [] sz)) 0 0 (va_A [] sz) := by
  refine Met.ofW (cc := cX8_binding) (maxL := 1) (ret := (some .int)) (by decide) rfl ?_
  intro p e s m args below meth c s₁ B hml hv
  obtain ⟨rfl, hsz, hP, hK, hD0, hM⟩ := hv
  have hx := B.exec
  have hb := B.bytes
  have hr := B.returns
  have hts := atoms_spec (ws := wm_r_binding) B.pre
  have hown : s.vm.findClass RX8 = some m.cls := findClass_of_methodNamed B.named
  have hlocks := B.notSynchronized
  subst hsz
  have hD := hD0.self (sz := s.heap.size)
  generalize hAe : va_A [] s.heap.size = A at hD hM ⊢
  have hA : ∀ q : Nat, s.heap.size ≤ q → A q := fun q h => by rw [← hAe]; exact Or.inr h
  have hS : va_S A s.heap s.heap [] := va_S.rf
  have hP : va_P (dC, dI) vwCl [] s.heap := hP
  have hl := lv_entry ([.int p0]) (n := 1) (Nat.le_of_ble_eq_true rfl)
  rw [lg_entry_eq]
  generalize (lg_sl ([.int p0]) ++ List.replicate (1 - (lg_sl ([.int p0])).length) Slot.unset).toArray = ls at hl ⊢
  have hl : lv_has ls 1 [(0, .int p0)] := hl
  refine lv_iload_n hx hb dX8_binding_0 rfl (lv_at hl 0 rfl) ?_
  by_cases w_3 : p0 = 33
  · refine lq_top (v := 33) w_3 ?_
    refine lv_lookup (tgt := 102) hx hb dX8_binding_1 (by decide) (off := 101) (by decide) (by decide) ?_
    refine lv_bipush (v := 6) hx hb dX8_binding_102 (by decide) ?_
    have hP9 := hP.sub (ws' := []) [] rfl
    have hD9 := hD.sub (ws' := []) [] (by decide) rfl
    have hK9 := hK.sub (tys' := []) [] rfl
    exact W.iret (v := 6) hx hb hr (fun t ht hW => ⟨⟨6, 6, rfl, rfl, ⟨6, rfl, by rw [ht]; exact hP9, va_K.moved hW.alike hK9, hD9⟩⟩, hS.F ht⟩) hS.2.2 dX8_binding_104
  by_cases w_4 : p0 = 38
  · refine lq_top (v := 38) w_4 ?_
    refine lv_lookup (tgt := 94) hx hb dX8_binding_1 (by decide) (off := 93) (by decide) (by decide) ?_
    refine lv_iconst (v := 2) hx hb dX8_binding_94 (by decide) ?_
    have hP9 := hP.sub (ws' := []) [] rfl
    have hD9 := hD.sub (ws' := []) [] (by decide) rfl
    have hK9 := hK.sub (tys' := []) [] rfl
    exact W.iret (v := 2) hx hb hr (fun t ht hW => ⟨⟨2, 2, rfl, rfl, ⟨2, rfl, by rw [ht]; exact hP9, va_K.moved hW.alike hK9, hD9⟩⟩, hS.F ht⟩) hS.2.2 dX8_binding_95
  by_cases w_5 : p0 = 42
  · refine lq_top (v := 42) w_5 ?_
    refine lv_lookup (tgt := 100) hx hb dX8_binding_1 (by decide) (off := 99) (by decide) (by decide) ?_
    refine lv_iconst (v := 5) hx hb dX8_binding_100 (by decide) ?_
    have hP9 := hP.sub (ws' := []) [] rfl
    have hD9 := hD.sub (ws' := []) [] (by decide) rfl
    have hK9 := hK.sub (tys' := []) [] rfl
    exact W.iret (v := 5) hx hb hr (fun t ht hW => ⟨⟨5, 5, rfl, rfl, ⟨5, rfl, by rw [ht]; exact hP9, va_K.moved hW.alike hK9, hD9⟩⟩, hS.F ht⟩) hS.2.2 dX8_binding_101
  by_cases w_6 : p0 = 43
  · refine lq_top (v := 43) w_6 ?_
    refine lv_lookup (tgt := 98) hx hb dX8_binding_1 (by decide) (off := 97) (by decide) (by decide) ?_
    refine lv_iconst (v := 4) hx hb dX8_binding_98 (by decide) ?_
    have hP9 := hP.sub (ws' := []) [] rfl
    have hD9 := hD.sub (ws' := []) [] (by decide) rfl
    have hK9 := hK.sub (tys' := []) [] rfl
    exact W.iret (v := 4) hx hb hr (fun t ht hW => ⟨⟨4, 4, rfl, rfl, ⟨4, rfl, by rw [ht]; exact hP9, va_K.moved hW.alike hK9, hD9⟩⟩, hS.F ht⟩) hS.2.2 dX8_binding_99
  by_cases w_7 : p0 = 45
  · refine lq_top (v := 45) w_7 ?_
    refine lv_lookup (tgt := 98) hx hb dX8_binding_1 (by decide) (off := 97) (by decide) (by decide) ?_
    refine lv_iconst (v := 4) hx hb dX8_binding_98 (by decide) ?_
    have hP9 := hP.sub (ws' := []) [] rfl
    have hD9 := hD.sub (ws' := []) [] (by decide) rfl
    have hK9 := hK.sub (tys' := []) [] rfl
    exact W.iret (v := 4) hx hb hr (fun t ht hW => ⟨⟨4, 4, rfl, rfl, ⟨4, rfl, by rw [ht]; exact hP9, va_K.moved hW.alike hK9, hD9⟩⟩, hS.F ht⟩) hS.2.2 dX8_binding_99
  by_cases w_8 : p0 = 60
  · refine lq_top (v := 60) w_8 ?_
    refine lv_lookup (tgt := 96) hx hb dX8_binding_1 (by decide) (off := 95) (by decide) (by decide) ?_
    refine lv_iconst (v := 3) hx hb dX8_binding_96 (by decide) ?_
    have hP9 := hP.sub (ws' := []) [] rfl
    have hD9 := hD.sub (ws' := []) [] (by decide) rfl
    have hK9 := hK.sub (tys' := []) [] rfl
    exact W.iret (v := 3) hx hb hr (fun t ht hW => ⟨⟨3, 3, rfl, rfl, ⟨3, rfl, by rw [ht]; exact hP9, va_K.moved hW.alike hK9, hD9⟩⟩, hS.F ht⟩) hS.2.2 dX8_binding_97
  by_cases w_9 : p0 = 61
  · refine lq_top (v := 61) w_9 ?_
    refine lv_lookup (tgt := 96) hx hb dX8_binding_1 (by decide) (off := 95) (by decide) (by decide) ?_
    refine lv_iconst (v := 3) hx hb dX8_binding_96 (by decide) ?_
    have hP9 := hP.sub (ws' := []) [] rfl
    have hD9 := hD.sub (ws' := []) [] (by decide) rfl
    have hK9 := hK.sub (tys' := []) [] rfl
    exact W.iret (v := 3) hx hb hr (fun t ht hW => ⟨⟨3, 3, rfl, rfl, ⟨3, rfl, by rw [ht]; exact hP9, va_K.moved hW.alike hK9, hD9⟩⟩, hS.F ht⟩) hS.2.2 dX8_binding_97
  by_cases w_10 : p0 = 62
  · refine lq_top (v := 62) w_10 ?_
    refine lv_lookup (tgt := 96) hx hb dX8_binding_1 (by decide) (off := 95) (by decide) (by decide) ?_
    refine lv_iconst (v := 3) hx hb dX8_binding_96 (by decide) ?_
    have hP9 := hP.sub (ws' := []) [] rfl
    have hD9 := hD.sub (ws' := []) [] (by decide) rfl
    have hK9 := hK.sub (tys' := []) [] rfl
    exact W.iret (v := 3) hx hb hr (fun t ht hW => ⟨⟨3, 3, rfl, rfl, ⟨3, rfl, by rw [ht]; exact hP9, va_K.moved hW.alike hK9, hD9⟩⟩, hS.F ht⟩) hS.2.2 dX8_binding_97
  by_cases w_11 : p0 = 124
  · refine lq_top (v := 124) w_11 ?_
    refine lv_lookup (tgt := 92) hx hb dX8_binding_1 (by decide) (off := 91) (by decide) (by decide) ?_
    refine lv_iconst (v := 1) hx hb dX8_binding_92 (by decide) ?_
    have hP9 := hP.sub (ws' := []) [] rfl
    have hD9 := hD.sub (ws' := []) [] (by decide) rfl
    have hK9 := hK.sub (tys' := []) [] rfl
    exact W.iret (v := 1) hx hb hr (fun t ht hW => ⟨⟨1, 1, rfl, rfl, ⟨1, rfl, by rw [ht]; exact hP9, va_K.moved hW.alike hK9, hD9⟩⟩, hS.F ht⟩) hS.2.2 dX8_binding_93
  by_cases w_12 : p0 = 126
  · refine lq_top (v := 126) w_12 ?_
    refine lv_lookup (tgt := 102) hx hb dX8_binding_1 (by decide) (off := 101) (by decide) (by decide) ?_
    refine lv_bipush (v := 6) hx hb dX8_binding_102 (by decide) ?_
    have hP9 := hP.sub (ws' := []) [] rfl
    have hD9 := hD.sub (ws' := []) [] (by decide) rfl
    have hK9 := hK.sub (tys' := []) [] rfl
    exact W.iret (v := 6) hx hb hr (fun t ht hW => ⟨⟨6, 6, rfl, rfl, ⟨6, rfl, by rw [ht]; exact hP9, va_K.moved hW.alike hK9, hD9⟩⟩, hS.F ht⟩) hS.2.2 dX8_binding_104
  refine lv_lookup (tgt := 105) hx hb dX8_binding_1 (by decide) (off := 104) ((lv_osw w_3 rfl).trans ((lv_osw w_4 rfl).trans ((lv_osw w_5 rfl).trans ((lv_osw w_6 rfl).trans ((lv_osw w_7 rfl).trans ((lv_osw w_8 rfl).trans ((lv_osw w_9 rfl).trans ((lv_osw w_10 rfl).trans ((lv_osw w_11 rfl).trans ((lv_osw w_12 rfl).trans (rfl))))))))))) (by decide) ?_
  refine lv_iconst (v := 0) hx hb dX8_binding_105 (by decide) ?_
  have hP9 := hP.sub (ws' := []) [] rfl
  have hD9 := hD.sub (ws' := []) [] (by decide) rfl
  have hK9 := hK.sub (tys' := []) [] rfl
  exact W.iret (v := 0) hx hb hr (fun t ht hW => ⟨⟨0, 0, rfl, rfl, ⟨0, rfl, by rw [ht]; exact hP9, va_K.moved hW.alike hK9, hD9⟩⟩, hS.F ht⟩) hS.2.2 dX8_binding_106
def wo_r_write : List Cond := [.fieldLink RX8 19 "TypingPool$Reader" "codeLength" "I", .fieldLink RX8 11 "TypingPool$Reader" "code" "[I"]
def wm_r_write : List Cond := .code yX8_write cX8_write 2 none :: (wo_r_write ++ (wsX80 ++ ([] : List Cond)))
theorem gd_r_write : ∀ w ∈ wm_r_write, goodWord w = true := gd_c rfl (gd_a (by decide) (gd_a gd_wsX80 gd_nil))
set_option maxRecDepth 20000 in
theorem im_r_write : ∀ w ∈ wm_r_write, w ∈ lw_tbl := im_c (in_r [.code yX8_write cX8_write 2 none] [336] (by decide +kernel)) (in_app (in_r wo_r_write [171, 170] (by decide +kernel)) (in_app im_wsX80 im_nil))
set_option maxHeartbeats 4000000 in
set_option maxRecDepth 100000 in
theorem r_write (l : Launch) (dC : Nat → ClassId) (dI : Nat → Nat → Nat) (ad av : Nat → Nat) (sz : Nat) (h0 : Nat) (e0 : Nat) (e2 : Nat) (cl : Nat) (ol : Nat) (k0 : ClassId) (k2 : ClassId) (f0 : Nat → Int32) (g0 : Nat → Int32) (i4 : Int32) (i5 : Int32) (i6 : Int32) (i7 : Int32) (p0 : Int32) (hcl : cl ≤ 60) (hol : ol ≤ 60) : Met l yX8_write wm_r_write ({ frames := 0, cells := 0, slots := 0, locals := 0 }) (pr_ ad av (dC, dI) sz [.ref h0, .int p0] [(h0, .inr (8, [.ref e0, .int (nI cl), .ref e2, .int (nI ol), .int i4, .int i5, .int i6, .int i7])), (e0, .inl (k0, 60, .inl f0)), (e2, .inl (k2, 60, .inl g0))] [(k0, .int), (k2, .char)]) (va_Qv (fun (_ : Unit) => True) (fun (_ : Unit) (t : State) => (∃ (cl1 : Nat), ∃ (f1 : Nat → Int32), cl1 ≤ 60 ∧ po_ (dC, dI) (va_A [(h0, .inr (8, [.ref e0, .int (nI cl), .ref e2, .int (nI ol), .int i4, .int i5, .int i6, .int i7])), (e0, .inl (k0, 60, .inl f0)), (e2, .inl (k2, 60, .inl g0))] sz) [(h0, .inr (8, [.ref e0, .int (nI cl1), .ref e2, .int (nI ol), .int i4, .int i5, .int i6, .int i7])), (e0, .inl (k0, 60, .inl f1)), (e2, .inl (k2, 60, .inl g0))] [(k0, .int), (k2, .char)] t)) (va_A [(h0, .inr (8, [.ref e0, .int (nI cl), .ref e2, .int (nI ol), .int i4, .int i5, .int i6, .int i7])), (e0, .inl (k0, 60, .inl f0)), (e2, .inl (k2, 60, .inl g0))] sz)) 0 0 (va_A [(h0, .inr (8, [.ref e0, .int (nI cl), .ref e2, .int (nI ol), .int i4, .int i5, .int i6, .int i7])), (e0, .inl (k0, 60, .inl f0)), (e2, .inl (k2, 60, .inl g0))] sz) := by
  refine Met.ofW (cc := cX8_write) (maxL := 2) (ret := none) (by decide) rfl ?_
  intro p e s m args below meth c s₁ B hml hv
  obtain ⟨rfl, hsz, hP, hK, hD0, hM⟩ := hv
  have hx := B.exec
  have hb := B.bytes
  have hr := B.returns
  have hts := atoms_spec (ws := wm_r_write) B.pre
  have hown : s.vm.findClass RX8 = some m.cls := findClass_of_methodNamed B.named
  have hlocks := B.notSynchronized
  subst hsz
  have hD := hD0.self (sz := s.heap.size)
  generalize hAe : va_A [(h0, .inr (8, [.ref e0, .int (nI cl), .ref e2, .int (nI ol), .int i4, .int i5, .int i6, .int i7])), (e0, .inl (k0, 60, .inl f0)), (e2, .inl (k2, 60, .inl g0))] s.heap.size = A at hD hM ⊢
  have hA : ∀ q : Nat, s.heap.size ≤ q → A q := fun q h => by rw [← hAe]; exact Or.inr h
  have hS : va_S A s.heap s.heap [] := va_S.rf
  have hP : va_P (dC, dI) vwCl [(h0, .inr (8, [.ref e0, .int (nI cl), .ref e2, .int (nI ol), .int i4, .int i5, .int i6, .int i7])), (e0, .inl (k0, 60, .inl f0)), (e2, .inl (k2, 60, .inl g0))] s.heap := hP
  have hl := lv_entry ([.ref h0, .int p0]) (n := 2) (Nat.le_of_ble_eq_true rfl)
  rw [lg_entry_eq]
  generalize (lg_sl ([.ref h0, .int p0]) ++ List.replicate (2 - (lg_sl ([.ref h0, .int p0])).length) Slot.unset).toArray = ls at hl ⊢
  have hl : lv_has ls 2 [(0, .ref h0), (1, .int p0)] := hl
  refine lv_aload_n hx hb dX8_write_0 rfl (lv_at hl 0 rfl) ?_
  refine va_get (D := (dC, dI)) (ci := 8) (v := .int (nI cl)) (C := RX8) (T := TX8) (N := 8) hx hb hts (fun _ hh => (List.mem_cons_of_mem _ (List.mem_append_right _ (List.mem_append_left _ hh)))) hown hK hP 0 rfl rfl 1 (by decide) (hts (.fieldLink RX8 19 "TypingPool$Reader" "codeLength" "I") (List.mem_cons_of_mem _ (List.mem_append_left _ (List.mem_of_getElem? (i := 0) rfl)))) (fun _ h9 => h9) rfl dX8_write_1 ?_
  refine lv_aload_n hx hb dX8_write_4 rfl (lv_at hl 0 rfl) ?_
  refine va_get (D := (dC, dI)) (ci := 8) (v := .ref e0) (C := RX8) (T := TX8) (N := 8) hx hb hts (fun _ hh => (List.mem_cons_of_mem _ (List.mem_append_right _ (List.mem_append_left _ hh)))) hown hK hP 0 rfl rfl 0 (by decide) (hts (.fieldLink RX8 11 "TypingPool$Reader" "code" "[I") (List.mem_cons_of_mem _ (List.mem_append_left _ (List.mem_of_getElem? (i := 1) rfl)))) (fun _ h9 => h9) rfl dX8_write_5 ?_
  refine va_alen (v := 60) hx hb hK hP 1 0 rfl rfl rfl dX8_write_8 ?_
  refine lv_icmp_ge (tgt := 32) hx hb dX8_write_9 (by decide) (fun c_13 => ?_) (fun c_13 => ?_)
  · have hn_c_13 := q_le 60 cl c_13 rfl rfl (by omega) (by omega)
    have hP9 := hP.sub (ws' := [(h0, .inr (8, [.ref e0, .int (nI cl), .ref e2, .int (nI ol), .int i4, .int i5, .int i6, .int i7])), (e0, .inl (k0, 60, .inl f0)), (e2, .inl (k2, 60, .inl g0))]) [0, 1, 2] rfl
    have hD9 := hD.sub (ws' := [(h0, .inr (8, [.ref e0, .int (nI cl), .ref e2, .int (nI ol), .int i4, .int i5, .int i6, .int i7])), (e0, .inl (k0, 60, .inl f0)), (e2, .inl (k2, 60, .inl g0))]) [0, 1, 2] (by decide) rfl
    have hK9 := hK.sub (tys' := [(k0, .int), (k2, .char)]) [0, 1] rfl
    exact W.vret hx hb hr (fun t ht hW => ⟨⟨(), rfl, trivial, ⟨cl, f0, (by omega), by rw [ht]; exact hP9, va_K.moved hW.alike hK9, hD9⟩⟩, hS.F ht⟩) hS.2.2 dX8_write_32
  · have hn_c_13 := q_nle 60 cl c_13 rfl rfl (by omega) (by omega)
    refine lv_aload_n hx hb dX8_write_12 rfl (lv_at hl 0 rfl) ?_
    refine va_get (D := (dC, dI)) (ci := 8) (v := .ref e0) (C := RX8) (T := TX8) (N := 8) hx hb hts (fun _ hh => (List.mem_cons_of_mem _ (List.mem_append_right _ (List.mem_append_left _ hh)))) hown hK hP 0 rfl rfl 0 (by decide) (hts (.fieldLink RX8 11 "TypingPool$Reader" "code" "[I") (List.mem_cons_of_mem _ (List.mem_append_left _ (List.mem_of_getElem? (i := 1) rfl)))) (fun _ h9 => h9) rfl dX8_write_13 ?_
    refine lv_aload_n hx hb dX8_write_16 rfl (lv_at hl 0 rfl) ?_
    refine va_get (D := (dC, dI)) (ci := 8) (v := .int (nI cl)) (C := RX8) (T := TX8) (N := 8) hx hb hts (fun _ hh => (List.mem_cons_of_mem _ (List.mem_append_right _ (List.mem_append_left _ hh)))) hown hK hP 0 rfl rfl 1 (by decide) (hts (.fieldLink RX8 19 "TypingPool$Reader" "codeLength" "I") (List.mem_cons_of_mem _ (List.mem_append_left _ (List.mem_of_getElem? (i := 0) rfl)))) (fun _ h9 => h9) rfl dX8_write_17 ?_
    refine lv_iload_n hx hb dX8_write_20 rfl (lv_at hl 1 rfl) ?_
    refine va_iast hx hb hK hP hD hS 1 0 rfl rfl (vp_in_nI (n := cl) (by omega) (by omega)) dX8_write_21 (fun H locs hP hD hS => ?_)
    obtain ⟨f_14, ef_14⟩ : ∃ y : Nat → Int32, y = upd f0 (nI cl).toNatClampNeg p0 := ⟨_, rfl⟩
    have hP : va_P (dC, dI) vwCl [(h0, .inr (8, [.ref e0, .int (nI cl), .ref e2, .int (nI ol), .int i4, .int i5, .int i6, .int i7])), (e0, .inl (k0, 60, .inl f_14)), (e2, .inl (k2, 60, .inl g0))] H := by rw [ef_14]; exact hP
    have hD : va_D A [(h0, .inr (8, [.ref e0, .int (nI cl), .ref e2, .int (nI ol), .int i4, .int i5, .int i6, .int i7])), (e0, .inl (k0, 60, .inl f_14)), (e2, .inl (k2, 60, .inl g0))] := by rw [ef_14]; exact hD
    refine lv_aload_n hx hb dX8_write_22 rfl (lv_at hl 0 rfl) ?_
    refine lv_dup hx hb dX8_write_23 rfl ?_
    refine va_get (D := (dC, dI)) (ci := 8) (v := .int (nI cl)) (C := RX8) (T := TX8) (N := 8) hx hb hts (fun _ hh => (List.mem_cons_of_mem _ (List.mem_append_right _ (List.mem_append_left _ hh)))) hown hK hP 0 rfl rfl 1 (by decide) (hts (.fieldLink RX8 19 "TypingPool$Reader" "codeLength" "I") (List.mem_cons_of_mem _ (List.mem_append_left _ (List.mem_of_getElem? (i := 0) rfl)))) (fun _ h9 => h9) rfl dX8_write_24 ?_
    refine lv_iconst (v := 1) hx hb dX8_write_27 (by decide) ?_
    refine lv_iadd hx hb dX8_write_28 ?_
    refine lq_top (v := nI (cl + 1)) (nI_add cl 1) ?_
    refine va_put (D := (dC, dI)) (ci := 8) (v := .int (nI (cl + 1))) (ty := .int) (C := RX8) (T := TX8) (N := 8) hx hb hts (fun _ hh => (List.mem_cons_of_mem _ (List.mem_append_right _ (List.mem_append_left _ hh)))) tyX8 tyX8_ok nmX8 hown hK hP hD hS 0 rfl rfl 1 (by decide) (hts (.fieldLink RX8 19 "TypingPool$Reader" "codeLength" "I") (List.mem_cons_of_mem _ (List.mem_append_left _ (List.mem_of_getElem? (i := 0) rfl)))) (fun _ h9 => h9) rfl (tyX8_ok 1 (by decide)) rfl rfl (Nat.le_of_ble_eq_true rfl) dX8_write_29 (fun H locs hP hD hS => ?_)
    have hP : va_P (dC, dI) vwCl [(h0, .inr (8, [.ref e0, .int (nI (cl + 1)), .ref e2, .int (nI ol), .int i4, .int i5, .int i6, .int i7])), (e0, .inl (k0, 60, .inl f_14)), (e2, .inl (k2, 60, .inl g0))] H := hP
    have hD : va_D A [(h0, .inr (8, [.ref e0, .int (nI (cl + 1)), .ref e2, .int (nI ol), .int i4, .int i5, .int i6, .int i7])), (e0, .inl (k0, 60, .inl f_14)), (e2, .inl (k2, 60, .inl g0))] := hD
    have hP9 := hP.sub (ws' := [(h0, .inr (8, [.ref e0, .int (nI (cl + 1)), .ref e2, .int (nI ol), .int i4, .int i5, .int i6, .int i7])), (e0, .inl (k0, 60, .inl f_14)), (e2, .inl (k2, 60, .inl g0))]) [0, 1, 2] rfl
    have hD9 := hD.sub (ws' := [(h0, .inr (8, [.ref e0, .int (nI (cl + 1)), .ref e2, .int (nI ol), .int i4, .int i5, .int i6, .int i7])), (e0, .inl (k0, 60, .inl f_14)), (e2, .inl (k2, 60, .inl g0))]) [0, 1, 2] (by decide) rfl
    have hK9 := hK.sub (tys' := [(k0, .int), (k2, .char)]) [0, 1] rfl
    exact W.vret hx hb hr (fun t ht hW => ⟨⟨(), rfl, trivial, ⟨cl + 1, f_14, (by omega), by rw [ht]; exact hP9, va_K.moved hW.alike hK9, hD9⟩⟩, hS.F ht⟩) hS.2.2 dX8_write_32
def wo_r_keepOpen : List Cond := [.fieldLink RX8 23 "TypingPool$Reader" "openLength" "I", .fieldLink RX8 15 "TypingPool$Reader" "open" "[C"]
def wm_r_keepOpen : List Cond := .code yX8_keepOpen cX8_keepOpen 2 none :: (wo_r_keepOpen ++ (wsX80 ++ ([] : List Cond)))
theorem gd_r_keepOpen : ∀ w ∈ wm_r_keepOpen, goodWord w = true := gd_c rfl (gd_a (by decide) (gd_a gd_wsX80 gd_nil))
set_option maxRecDepth 20000 in
theorem im_r_keepOpen : ∀ w ∈ wm_r_keepOpen, w ∈ lw_tbl := im_c (in_r [.code yX8_keepOpen cX8_keepOpen 2 none] [340] (by decide +kernel)) (in_app (in_r wo_r_keepOpen [173, 172] (by decide +kernel)) (in_app im_wsX80 im_nil))
set_option maxHeartbeats 4000000 in
set_option maxRecDepth 100000 in
theorem r_keepOpen (l : Launch) (dC : Nat → ClassId) (dI : Nat → Nat → Nat) (ad av : Nat → Nat) (sz : Nat) (h0 : Nat) (e0 : Nat) (e2 : Nat) (cl : Nat) (ol : Nat) (k0 : ClassId) (k2 : ClassId) (f0 : Nat → Int32) (g0 : Nat → Int32) (i4 : Int32) (i5 : Int32) (i6 : Int32) (i7 : Int32) (p0 : Int32) (hcl : cl ≤ 60) (hol : ol ≤ 60) : Met l yX8_keepOpen wm_r_keepOpen ({ frames := 0, cells := 0, slots := 0, locals := 0 }) (pr_ ad av (dC, dI) sz [.ref h0, .int p0] [(h0, .inr (8, [.ref e0, .int (nI cl), .ref e2, .int (nI ol), .int i4, .int i5, .int i6, .int i7])), (e0, .inl (k0, 60, .inl f0)), (e2, .inl (k2, 60, .inl g0))] [(k0, .int), (k2, .char)]) (va_Qv (fun (_ : Unit) => True) (fun (_ : Unit) (t : State) => (∃ (ol1 : Nat), ∃ (g1 : Nat → Int32), ol1 ≤ 60 ∧ po_ (dC, dI) (va_A [(h0, .inr (8, [.ref e0, .int (nI cl), .ref e2, .int (nI ol), .int i4, .int i5, .int i6, .int i7])), (e0, .inl (k0, 60, .inl f0)), (e2, .inl (k2, 60, .inl g0))] sz) [(h0, .inr (8, [.ref e0, .int (nI cl), .ref e2, .int (nI ol1), .int i4, .int i5, .int i6, .int i7])), (e0, .inl (k0, 60, .inl f0)), (e2, .inl (k2, 60, .inl g1))] [(k0, .int), (k2, .char)] t)) (va_A [(h0, .inr (8, [.ref e0, .int (nI cl), .ref e2, .int (nI ol), .int i4, .int i5, .int i6, .int i7])), (e0, .inl (k0, 60, .inl f0)), (e2, .inl (k2, 60, .inl g0))] sz)) 0 0 (va_A [(h0, .inr (8, [.ref e0, .int (nI cl), .ref e2, .int (nI ol), .int i4, .int i5, .int i6, .int i7])), (e0, .inl (k0, 60, .inl f0)), (e2, .inl (k2, 60, .inl g0))] sz) := by
  refine Met.ofW (cc := cX8_keepOpen) (maxL := 2) (ret := none) (by decide) rfl ?_
  intro p e s m args below meth c s₁ B hml hv
  obtain ⟨rfl, hsz, hP, hK, hD0, hM⟩ := hv
  have hx := B.exec
  have hb := B.bytes
  have hr := B.returns
  have hts := atoms_spec (ws := wm_r_keepOpen) B.pre
  have hown : s.vm.findClass RX8 = some m.cls := findClass_of_methodNamed B.named
  have hlocks := B.notSynchronized
  subst hsz
  have hD := hD0.self (sz := s.heap.size)
  generalize hAe : va_A [(h0, .inr (8, [.ref e0, .int (nI cl), .ref e2, .int (nI ol), .int i4, .int i5, .int i6, .int i7])), (e0, .inl (k0, 60, .inl f0)), (e2, .inl (k2, 60, .inl g0))] s.heap.size = A at hD hM ⊢
  have hA : ∀ q : Nat, s.heap.size ≤ q → A q := fun q h => by rw [← hAe]; exact Or.inr h
  have hS : va_S A s.heap s.heap [] := va_S.rf
  have hP : va_P (dC, dI) vwCl [(h0, .inr (8, [.ref e0, .int (nI cl), .ref e2, .int (nI ol), .int i4, .int i5, .int i6, .int i7])), (e0, .inl (k0, 60, .inl f0)), (e2, .inl (k2, 60, .inl g0))] s.heap := hP
  have hl := lv_entry ([.ref h0, .int p0]) (n := 2) (Nat.le_of_ble_eq_true rfl)
  rw [lg_entry_eq]
  generalize (lg_sl ([.ref h0, .int p0]) ++ List.replicate (2 - (lg_sl ([.ref h0, .int p0])).length) Slot.unset).toArray = ls at hl ⊢
  have hl : lv_has ls 2 [(0, .ref h0), (1, .int p0)] := hl
  refine lv_aload_n hx hb dX8_keepOpen_0 rfl (lv_at hl 0 rfl) ?_
  refine va_get (D := (dC, dI)) (ci := 8) (v := .int (nI ol)) (C := RX8) (T := TX8) (N := 8) hx hb hts (fun _ hh => (List.mem_cons_of_mem _ (List.mem_append_right _ (List.mem_append_left _ hh)))) hown hK hP 0 rfl rfl 3 (by decide) (hts (.fieldLink RX8 23 "TypingPool$Reader" "openLength" "I") (List.mem_cons_of_mem _ (List.mem_append_left _ (List.mem_of_getElem? (i := 0) rfl)))) (fun _ h9 => h9) rfl dX8_keepOpen_1 ?_
  refine lv_aload_n hx hb dX8_keepOpen_4 rfl (lv_at hl 0 rfl) ?_
  refine va_get (D := (dC, dI)) (ci := 8) (v := .ref e2) (C := RX8) (T := TX8) (N := 8) hx hb hts (fun _ hh => (List.mem_cons_of_mem _ (List.mem_append_right _ (List.mem_append_left _ hh)))) hown hK hP 0 rfl rfl 2 (by decide) (hts (.fieldLink RX8 15 "TypingPool$Reader" "open" "[C") (List.mem_cons_of_mem _ (List.mem_append_left _ (List.mem_of_getElem? (i := 1) rfl)))) (fun _ h9 => h9) rfl dX8_keepOpen_5 ?_
  refine va_alen (v := 60) hx hb hK hP 2 1 rfl rfl rfl dX8_keepOpen_8 ?_
  refine lv_icmp_ge (tgt := 32) hx hb dX8_keepOpen_9 (by decide) (fun c_15 => ?_) (fun c_15 => ?_)
  · have hn_c_15 := q_le 60 ol c_15 rfl rfl (by omega) (by omega)
    have hP9 := hP.sub (ws' := [(h0, .inr (8, [.ref e0, .int (nI cl), .ref e2, .int (nI ol), .int i4, .int i5, .int i6, .int i7])), (e0, .inl (k0, 60, .inl f0)), (e2, .inl (k2, 60, .inl g0))]) [0, 1, 2] rfl
    have hD9 := hD.sub (ws' := [(h0, .inr (8, [.ref e0, .int (nI cl), .ref e2, .int (nI ol), .int i4, .int i5, .int i6, .int i7])), (e0, .inl (k0, 60, .inl f0)), (e2, .inl (k2, 60, .inl g0))]) [0, 1, 2] (by decide) rfl
    have hK9 := hK.sub (tys' := [(k0, .int), (k2, .char)]) [0, 1] rfl
    exact W.vret hx hb hr (fun t ht hW => ⟨⟨(), rfl, trivial, ⟨ol, g0, (by omega), by rw [ht]; exact hP9, va_K.moved hW.alike hK9, hD9⟩⟩, hS.F ht⟩) hS.2.2 dX8_keepOpen_32
  · have hn_c_15 := q_nle 60 ol c_15 rfl rfl (by omega) (by omega)
    refine lv_aload_n hx hb dX8_keepOpen_12 rfl (lv_at hl 0 rfl) ?_
    refine va_get (D := (dC, dI)) (ci := 8) (v := .ref e2) (C := RX8) (T := TX8) (N := 8) hx hb hts (fun _ hh => (List.mem_cons_of_mem _ (List.mem_append_right _ (List.mem_append_left _ hh)))) hown hK hP 0 rfl rfl 2 (by decide) (hts (.fieldLink RX8 15 "TypingPool$Reader" "open" "[C") (List.mem_cons_of_mem _ (List.mem_append_left _ (List.mem_of_getElem? (i := 1) rfl)))) (fun _ h9 => h9) rfl dX8_keepOpen_13 ?_
    refine lv_aload_n hx hb dX8_keepOpen_16 rfl (lv_at hl 0 rfl) ?_
    refine va_get (D := (dC, dI)) (ci := 8) (v := .int (nI ol)) (C := RX8) (T := TX8) (N := 8) hx hb hts (fun _ hh => (List.mem_cons_of_mem _ (List.mem_append_right _ (List.mem_append_left _ hh)))) hown hK hP 0 rfl rfl 3 (by decide) (hts (.fieldLink RX8 23 "TypingPool$Reader" "openLength" "I") (List.mem_cons_of_mem _ (List.mem_append_left _ (List.mem_of_getElem? (i := 0) rfl)))) (fun _ h9 => h9) rfl dX8_keepOpen_17 ?_
    refine lv_iload_n hx hb dX8_keepOpen_20 rfl (lv_at hl 1 rfl) ?_
    refine va_cast hx hb hK hP hD hS 2 1 rfl rfl (vp_in_nI (n := ol) (by omega) (by omega)) dX8_keepOpen_21 (fun H locs hP hD hS => ?_)
    obtain ⟨f_16, ef_16⟩ : ∃ y : Nat → Int32, y = upd g0 (nI ol).toNatClampNeg (vp_nar .char p0) := ⟨_, rfl⟩
    have hP : va_P (dC, dI) vwCl [(h0, .inr (8, [.ref e0, .int (nI cl), .ref e2, .int (nI ol), .int i4, .int i5, .int i6, .int i7])), (e0, .inl (k0, 60, .inl f0)), (e2, .inl (k2, 60, .inl f_16))] H := by rw [ef_16]; exact hP
    have hD : va_D A [(h0, .inr (8, [.ref e0, .int (nI cl), .ref e2, .int (nI ol), .int i4, .int i5, .int i6, .int i7])), (e0, .inl (k0, 60, .inl f0)), (e2, .inl (k2, 60, .inl f_16))] := by rw [ef_16]; exact hD
    refine lv_aload_n hx hb dX8_keepOpen_22 rfl (lv_at hl 0 rfl) ?_
    refine lv_dup hx hb dX8_keepOpen_23 rfl ?_
    refine va_get (D := (dC, dI)) (ci := 8) (v := .int (nI ol)) (C := RX8) (T := TX8) (N := 8) hx hb hts (fun _ hh => (List.mem_cons_of_mem _ (List.mem_append_right _ (List.mem_append_left _ hh)))) hown hK hP 0 rfl rfl 3 (by decide) (hts (.fieldLink RX8 23 "TypingPool$Reader" "openLength" "I") (List.mem_cons_of_mem _ (List.mem_append_left _ (List.mem_of_getElem? (i := 0) rfl)))) (fun _ h9 => h9) rfl dX8_keepOpen_24 ?_
    refine lv_iconst (v := 1) hx hb dX8_keepOpen_27 (by decide) ?_
    refine lv_iadd hx hb dX8_keepOpen_28 ?_
    refine lq_top (v := nI (ol + 1)) (nI_add ol 1) ?_
    refine va_put (D := (dC, dI)) (ci := 8) (v := .int (nI (ol + 1))) (ty := .int) (C := RX8) (T := TX8) (N := 8) hx hb hts (fun _ hh => (List.mem_cons_of_mem _ (List.mem_append_right _ (List.mem_append_left _ hh)))) tyX8 tyX8_ok nmX8 hown hK hP hD hS 0 rfl rfl 3 (by decide) (hts (.fieldLink RX8 23 "TypingPool$Reader" "openLength" "I") (List.mem_cons_of_mem _ (List.mem_append_left _ (List.mem_of_getElem? (i := 0) rfl)))) (fun _ h9 => h9) rfl (tyX8_ok 3 (by decide)) rfl rfl (Nat.le_of_ble_eq_true rfl) dX8_keepOpen_29 (fun H locs hP hD hS => ?_)
    have hP : va_P (dC, dI) vwCl [(h0, .inr (8, [.ref e0, .int (nI cl), .ref e2, .int (nI (ol + 1)), .int i4, .int i5, .int i6, .int i7])), (e0, .inl (k0, 60, .inl f0)), (e2, .inl (k2, 60, .inl f_16))] H := hP
    have hD : va_D A [(h0, .inr (8, [.ref e0, .int (nI cl), .ref e2, .int (nI (ol + 1)), .int i4, .int i5, .int i6, .int i7])), (e0, .inl (k0, 60, .inl f0)), (e2, .inl (k2, 60, .inl f_16))] := hD
    have hP9 := hP.sub (ws' := [(h0, .inr (8, [.ref e0, .int (nI cl), .ref e2, .int (nI (ol + 1)), .int i4, .int i5, .int i6, .int i7])), (e0, .inl (k0, 60, .inl f0)), (e2, .inl (k2, 60, .inl f_16))]) [0, 1, 2] rfl
    have hD9 := hD.sub (ws' := [(h0, .inr (8, [.ref e0, .int (nI cl), .ref e2, .int (nI (ol + 1)), .int i4, .int i5, .int i6, .int i7])), (e0, .inl (k0, 60, .inl f0)), (e2, .inl (k2, 60, .inl f_16))]) [0, 1, 2] (by decide) rfl
    have hK9 := hK.sub (tys' := [(k0, .int), (k2, .char)]) [0, 1] rfl
    exact W.vret hx hb hr (fun t ht hW => ⟨⟨(), rfl, trivial, ⟨ol + 1, f_16, (by omega), by rw [ht]; exact hP9, va_K.moved hW.alike hK9, hD9⟩⟩, hS.F ht⟩) hS.2.2 dX8_keepOpen_32
def wo_r_goesOnNumber : List Cond := [.fieldLink RX8 32 "TypingPool$Reader" "digits" "I", .fieldLink RX8 19 "TypingPool$Reader" "codeLength" "I", .fieldLink RX8 11 "TypingPool$Reader" "code" "[I"]
def wm_r_goesOnNumber : List Cond := .code yX8_goesOnNumber cX8_goesOnNumber 2 (some .boolean) :: (wo_r_goesOnNumber ++ (wsX80 ++ ([] : List Cond)))
theorem gd_r_goesOnNumber : ∀ w ∈ wm_r_goesOnNumber, goodWord w = true := gd_c rfl (gd_a (by decide) (gd_a gd_wsX80 gd_nil))
set_option maxRecDepth 20000 in
theorem im_r_goesOnNumber : ∀ w ∈ wm_r_goesOnNumber, w ∈ lw_tbl := im_c (in_r [.code yX8_goesOnNumber cX8_goesOnNumber 2 (some .boolean)] [348] (by decide +kernel)) (in_app (in_r wo_r_goesOnNumber [176, 171, 170] (by decide +kernel)) (in_app im_wsX80 im_nil))
set_option maxHeartbeats 4000000 in
set_option maxRecDepth 100000 in
theorem r_goesOnNumber (l : Launch) (dC : Nat → ClassId) (dI : Nat → Nat → Nat) (ad av : Nat → Nat) (sz : Nat) (h0 : Nat) (e0 : Nat) (e2 : Nat) (cl : Nat) (ol : Nat) (k0 : ClassId) (k2 : ClassId) (f0 : Nat → Int32) (g0 : Nat → Int32) (i4 : Int32) (i5 : Int32) (i6 : Int32) (i7 : Int32) (p0 : Int32) (hcl : cl ≤ 60) (hol : ol ≤ 60) : Met l yX8_goesOnNumber wm_r_goesOnNumber ({ frames := 0, cells := 0, slots := 0, locals := 0 }) (pr_ ad av (dC, dI) sz [.ref h0, .int p0] [(h0, .inr (8, [.ref e0, .int (nI cl), .ref e2, .int (nI ol), .int i4, .int i5, .int i6, .int i7])), (e0, .inl (k0, 60, .inl f0)), (e2, .inl (k2, 60, .inl g0))] [(k0, .int), (k2, .char)]) (va_Qi (fun (r u : Int32) => u = r) (fun (r : Int32) (t : State) => (∃ (cl1 : Nat), ∃ (ol1 : Nat), ∃ (j4 : Int32), ∃ (j5 : Int32), ∃ (j6 : Int32), ∃ (j7 : Int32), ∃ (f1 : Nat → Int32), ∃ (g1 : Nat → Int32), r = 1 ∧ cl1 ≤ 60 ∧ ol1 ≤ 60 ∧ po_ (dC, dI) (va_A [(h0, .inr (8, [.ref e0, .int (nI cl), .ref e2, .int (nI ol), .int i4, .int i5, .int i6, .int i7])), (e0, .inl (k0, 60, .inl f0)), (e2, .inl (k2, 60, .inl g0))] sz) [(h0, .inr (8, [.ref e0, .int (nI cl1), .ref e2, .int (nI ol1), .int j4, .int j5, .int j6, .int j7])), (e0, .inl (k0, 60, .inl f1)), (e2, .inl (k2, 60, .inl g1))] [(k0, .int), (k2, .char)] t) ∨ (∃ (cl1 : Nat), ∃ (ol1 : Nat), ∃ (j4 : Int32), ∃ (j5 : Int32), ∃ (j6 : Int32), ∃ (j7 : Int32), ∃ (f1 : Nat → Int32), ∃ (g1 : Nat → Int32), r = 0 ∧ cl1 ≤ 60 ∧ ol1 ≤ 60 ∧ po_ (dC, dI) (va_A [(h0, .inr (8, [.ref e0, .int (nI cl), .ref e2, .int (nI ol), .int i4, .int i5, .int i6, .int i7])), (e0, .inl (k0, 60, .inl f0)), (e2, .inl (k2, 60, .inl g0))] sz) [(h0, .inr (8, [.ref e0, .int (nI cl1), .ref e2, .int (nI ol1), .int j4, .int j5, .int j6, .int j7])), (e0, .inl (k0, 60, .inl f1)), (e2, .inl (k2, 60, .inl g1))] [(k0, .int), (k2, .char)] t)) (va_A [(h0, .inr (8, [.ref e0, .int (nI cl), .ref e2, .int (nI ol), .int i4, .int i5, .int i6, .int i7])), (e0, .inl (k0, 60, .inl f0)), (e2, .inl (k2, 60, .inl g0))] sz)) 0 0 (va_A [(h0, .inr (8, [.ref e0, .int (nI cl), .ref e2, .int (nI ol), .int i4, .int i5, .int i6, .int i7])), (e0, .inl (k0, 60, .inl f0)), (e2, .inl (k2, 60, .inl g0))] sz) := by
  refine Met.ofW (cc := cX8_goesOnNumber) (maxL := 2) (ret := (some .boolean)) (by decide) rfl ?_
  intro p e s m args below meth c s₁ B hml hv
  obtain ⟨rfl, hsz, hP, hK, hD0, hM⟩ := hv
  have hx := B.exec
  have hb := B.bytes
  have hr := B.returns
  have hts := atoms_spec (ws := wm_r_goesOnNumber) B.pre
  have hown : s.vm.findClass RX8 = some m.cls := findClass_of_methodNamed B.named
  have hlocks := B.notSynchronized
  subst hsz
  have hD := hD0.self (sz := s.heap.size)
  generalize hAe : va_A [(h0, .inr (8, [.ref e0, .int (nI cl), .ref e2, .int (nI ol), .int i4, .int i5, .int i6, .int i7])), (e0, .inl (k0, 60, .inl f0)), (e2, .inl (k2, 60, .inl g0))] s.heap.size = A at hD hM ⊢
  have hA : ∀ q : Nat, s.heap.size ≤ q → A q := fun q h => by rw [← hAe]; exact Or.inr h
  have hS : va_S A s.heap s.heap [] := va_S.rf
  have hP : va_P (dC, dI) vwCl [(h0, .inr (8, [.ref e0, .int (nI cl), .ref e2, .int (nI ol), .int i4, .int i5, .int i6, .int i7])), (e0, .inl (k0, 60, .inl f0)), (e2, .inl (k2, 60, .inl g0))] s.heap := hP
  have hl := lv_entry ([.ref h0, .int p0]) (n := 2) (Nat.le_of_ble_eq_true rfl)
  rw [lg_entry_eq]
  generalize (lg_sl ([.ref h0, .int p0]) ++ List.replicate (2 - (lg_sl ([.ref h0, .int p0])).length) Slot.unset).toArray = ls at hl ⊢
  have hl : lv_has ls 2 [(0, .ref h0), (1, .int p0)] := hl
  refine lv_aload_n hx hb dX8_goesOnNumber_0 rfl (lv_at hl 0 rfl) ?_
  refine va_get (D := (dC, dI)) (ci := 8) (v := .int i6) (C := RX8) (T := TX8) (N := 8) hx hb hts (fun _ hh => (List.mem_cons_of_mem _ (List.mem_append_right _ (List.mem_append_left _ hh)))) hown hK hP 0 rfl rfl 6 (by decide) (hts (.fieldLink RX8 32 "TypingPool$Reader" "digits" "I") (List.mem_cons_of_mem _ (List.mem_append_left _ (List.mem_of_getElem? (i := 0) rfl)))) (fun _ h9 => h9) rfl dX8_goesOnNumber_1 ?_
  refine lv_if_eq (tgt := 23) hx hb dX8_goesOnNumber_4 (by decide) (fun c_17 => ?_) (fun c_17 => ?_)
  · refine lv_iconst (v := 0) hx hb dX8_goesOnNumber_23 (by decide) ?_
    have hP9 := hP.sub (ws' := [(h0, .inr (8, [.ref e0, .int (nI cl), .ref e2, .int (nI ol), .int i4, .int i5, .int i6, .int i7])), (e0, .inl (k0, 60, .inl f0)), (e2, .inl (k2, 60, .inl g0))]) [0, 1, 2] rfl
    have hD9 := hD.sub (ws' := [(h0, .inr (8, [.ref e0, .int (nI cl), .ref e2, .int (nI ol), .int i4, .int i5, .int i6, .int i7])), (e0, .inl (k0, 60, .inl f0)), (e2, .inl (k2, 60, .inl g0))]) [0, 1, 2] (by decide) rfl
    have hK9 := hK.sub (tys' := [(k0, .int), (k2, .char)]) [0, 1] rfl
    exact W.zret (v := 0) hx hb hr (by decide) (fun t ht hW => ⟨⟨0, 0, rfl, rfl, Or.inr (⟨cl, ol, i4, i5, i6, i7, f0, g0, rfl, (by omega), (by omega), by rw [ht]; exact hP9, va_K.moved hW.alike hK9, hD9⟩)⟩, hS.F ht⟩) hS.2.2 dX8_goesOnNumber_24
  · refine lv_aload_n hx hb dX8_goesOnNumber_7 rfl (lv_at hl 0 rfl) ?_
    refine va_get (D := (dC, dI)) (ci := 8) (v := .int i6) (C := RX8) (T := TX8) (N := 8) hx hb hts (fun _ hh => (List.mem_cons_of_mem _ (List.mem_append_right _ (List.mem_append_left _ hh)))) hown hK hP 0 rfl rfl 6 (by decide) (hts (.fieldLink RX8 32 "TypingPool$Reader" "digits" "I") (List.mem_cons_of_mem _ (List.mem_append_left _ (List.mem_of_getElem? (i := 0) rfl)))) (fun _ h9 => h9) rfl dX8_goesOnNumber_8 ?_
    refine lv_iconst (v := 4) hx hb dX8_goesOnNumber_11 (by decide) ?_
    refine lv_icmp_ge (tgt := 23) hx hb dX8_goesOnNumber_12 (by decide) (fun c_18 => ?_) (fun c_18 => ?_)
    · refine lv_iconst (v := 0) hx hb dX8_goesOnNumber_23 (by decide) ?_
      have hP9 := hP.sub (ws' := [(h0, .inr (8, [.ref e0, .int (nI cl), .ref e2, .int (nI ol), .int i4, .int i5, .int i6, .int i7])), (e0, .inl (k0, 60, .inl f0)), (e2, .inl (k2, 60, .inl g0))]) [0, 1, 2] rfl
      have hD9 := hD.sub (ws' := [(h0, .inr (8, [.ref e0, .int (nI cl), .ref e2, .int (nI ol), .int i4, .int i5, .int i6, .int i7])), (e0, .inl (k0, 60, .inl f0)), (e2, .inl (k2, 60, .inl g0))]) [0, 1, 2] (by decide) rfl
      have hK9 := hK.sub (tys' := [(k0, .int), (k2, .char)]) [0, 1] rfl
      exact W.zret (v := 0) hx hb hr (by decide) (fun t ht hW => ⟨⟨0, 0, rfl, rfl, Or.inr (⟨cl, ol, i4, i5, i6, i7, f0, g0, rfl, (by omega), (by omega), by rw [ht]; exact hP9, va_K.moved hW.alike hK9, hD9⟩)⟩, hS.F ht⟩) hS.2.2 dX8_goesOnNumber_24
    · refine lv_aload_n hx hb dX8_goesOnNumber_15 rfl (lv_at hl 0 rfl) ?_
      refine va_get (D := (dC, dI)) (ci := 8) (v := .int (nI cl)) (C := RX8) (T := TX8) (N := 8) hx hb hts (fun _ hh => (List.mem_cons_of_mem _ (List.mem_append_right _ (List.mem_append_left _ hh)))) hown hK hP 0 rfl rfl 1 (by decide) (hts (.fieldLink RX8 19 "TypingPool$Reader" "codeLength" "I") (List.mem_cons_of_mem _ (List.mem_append_left _ (List.mem_of_getElem? (i := 1) rfl)))) (fun _ h9 => h9) rfl dX8_goesOnNumber_16 ?_
      refine lv_iconst (v := 1) hx hb dX8_goesOnNumber_19 (by decide) ?_
      refine lv_icmp_ge (tgt := 25) hx hb dX8_goesOnNumber_20 (by decide) (fun c_19 => ?_) (fun c_19 => ?_)
      · have hn_c_19 := q_le 1 cl c_19 rfl rfl (by omega) (by omega)
        refine lv_aload_n hx hb dX8_goesOnNumber_25 rfl (lv_at hl 0 rfl) ?_
        refine va_get (D := (dC, dI)) (ci := 8) (v := .ref e0) (C := RX8) (T := TX8) (N := 8) hx hb hts (fun _ hh => (List.mem_cons_of_mem _ (List.mem_append_right _ (List.mem_append_left _ hh)))) hown hK hP 0 rfl rfl 0 (by decide) (hts (.fieldLink RX8 11 "TypingPool$Reader" "code" "[I") (List.mem_cons_of_mem _ (List.mem_append_left _ (List.mem_of_getElem? (i := 2) rfl)))) (fun _ h9 => h9) rfl dX8_goesOnNumber_26 ?_
        refine lv_aload_n hx hb dX8_goesOnNumber_29 rfl (lv_at hl 0 rfl) ?_
        refine va_get (D := (dC, dI)) (ci := 8) (v := .int (nI cl)) (C := RX8) (T := TX8) (N := 8) hx hb hts (fun _ hh => (List.mem_cons_of_mem _ (List.mem_append_right _ (List.mem_append_left _ hh)))) hown hK hP 0 rfl rfl 1 (by decide) (hts (.fieldLink RX8 19 "TypingPool$Reader" "codeLength" "I") (List.mem_cons_of_mem _ (List.mem_append_left _ (List.mem_of_getElem? (i := 1) rfl)))) (fun _ h9 => h9) rfl dX8_goesOnNumber_30 ?_
        refine lv_iconst (v := 1) hx hb dX8_goesOnNumber_33 (by decide) ?_
        refine lv_isub hx hb dX8_goesOnNumber_34 ?_
        refine lq_top (v := nI (cl - 1)) (pk_sub (a := cl) (b := 1) (by omega)) ?_
        refine lv_aload_n hx hb dX8_goesOnNumber_35 rfl (lv_at hl 0 rfl) ?_
        refine va_get (D := (dC, dI)) (ci := 8) (v := .ref e0) (C := RX8) (T := TX8) (N := 8) hx hb hts (fun _ hh => (List.mem_cons_of_mem _ (List.mem_append_right _ (List.mem_append_left _ hh)))) hown hK hP 0 rfl rfl 0 (by decide) (hts (.fieldLink RX8 11 "TypingPool$Reader" "code" "[I") (List.mem_cons_of_mem _ (List.mem_append_left _ (List.mem_of_getElem? (i := 2) rfl)))) (fun _ h9 => h9) rfl dX8_goesOnNumber_36 ?_
        refine lv_aload_n hx hb dX8_goesOnNumber_39 rfl (lv_at hl 0 rfl) ?_
        refine va_get (D := (dC, dI)) (ci := 8) (v := .int (nI cl)) (C := RX8) (T := TX8) (N := 8) hx hb hts (fun _ hh => (List.mem_cons_of_mem _ (List.mem_append_right _ (List.mem_append_left _ hh)))) hown hK hP 0 rfl rfl 1 (by decide) (hts (.fieldLink RX8 19 "TypingPool$Reader" "codeLength" "I") (List.mem_cons_of_mem _ (List.mem_append_left _ (List.mem_of_getElem? (i := 1) rfl)))) (fun _ h9 => h9) rfl dX8_goesOnNumber_40 ?_
        refine lv_iconst (v := 1) hx hb dX8_goesOnNumber_43 (by decide) ?_
        refine lv_isub hx hb dX8_goesOnNumber_44 ?_
        refine lq_top (v := nI (cl - 1)) (pk_sub (a := cl) (b := 1) (by omega)) ?_
        refine va_iald hx hb hK hP 1 0 rfl rfl (vp_in_nI (n := cl - 1) (by omega) (by omega)) dX8_goesOnNumber_45 ?_
        refine lv_topi (fun x_20 ex_20 => ?_)
        refine lv_bipush (v := 10) hx hb dX8_goesOnNumber_46 (by decide) ?_
        refine lv_imul hx hb dX8_goesOnNumber_48 ?_
        refine lv_topi (fun x_21 ex_21 => ?_)
        refine lv_iload_n hx hb dX8_goesOnNumber_49 rfl (lv_at hl 1 rfl) ?_
        refine lv_bipush (v := 48) hx hb dX8_goesOnNumber_50 (by decide) ?_
        refine lv_isub hx hb dX8_goesOnNumber_52 ?_
        refine lv_topi (fun x_22 ex_22 => ?_)
        refine lv_iadd hx hb dX8_goesOnNumber_53 ?_
        refine lv_topi (fun x_23 ex_23 => ?_)
        refine va_iast hx hb hK hP hD hS 1 0 rfl rfl (vp_in_nI (n := cl - 1) (by omega) (by omega)) dX8_goesOnNumber_54 (fun H locs hP hD hS => ?_)
        obtain ⟨f_24, ef_24⟩ : ∃ y : Nat → Int32, y = upd f0 (nI (cl - 1)).toNatClampNeg x_23 := ⟨_, rfl⟩
        have hP : va_P (dC, dI) vwCl [(h0, .inr (8, [.ref e0, .int (nI cl), .ref e2, .int (nI ol), .int i4, .int i5, .int i6, .int i7])), (e0, .inl (k0, 60, .inl f_24)), (e2, .inl (k2, 60, .inl g0))] H := by rw [ef_24]; exact hP
        have hD : va_D A [(h0, .inr (8, [.ref e0, .int (nI cl), .ref e2, .int (nI ol), .int i4, .int i5, .int i6, .int i7])), (e0, .inl (k0, 60, .inl f_24)), (e2, .inl (k2, 60, .inl g0))] := by rw [ef_24]; exact hD
        refine lv_aload_n hx hb dX8_goesOnNumber_55 rfl (lv_at hl 0 rfl) ?_
        refine lv_dup hx hb dX8_goesOnNumber_56 rfl ?_
        refine va_get (D := (dC, dI)) (ci := 8) (v := .int i6) (C := RX8) (T := TX8) (N := 8) hx hb hts (fun _ hh => (List.mem_cons_of_mem _ (List.mem_append_right _ (List.mem_append_left _ hh)))) hown hK hP 0 rfl rfl 6 (by decide) (hts (.fieldLink RX8 32 "TypingPool$Reader" "digits" "I") (List.mem_cons_of_mem _ (List.mem_append_left _ (List.mem_of_getElem? (i := 0) rfl)))) (fun _ h9 => h9) rfl dX8_goesOnNumber_57 ?_
        refine lv_iconst (v := 1) hx hb dX8_goesOnNumber_60 (by decide) ?_
        refine lv_iadd hx hb dX8_goesOnNumber_61 ?_
        refine lv_topi (fun x_25 ex_25 => ?_)
        refine va_put (D := (dC, dI)) (ci := 8) (v := .int x_25) (ty := .int) (C := RX8) (T := TX8) (N := 8) hx hb hts (fun _ hh => (List.mem_cons_of_mem _ (List.mem_append_right _ (List.mem_append_left _ hh)))) tyX8 tyX8_ok nmX8 hown hK hP hD hS 0 rfl rfl 6 (by decide) (hts (.fieldLink RX8 32 "TypingPool$Reader" "digits" "I") (List.mem_cons_of_mem _ (List.mem_append_left _ (List.mem_of_getElem? (i := 0) rfl)))) (fun _ h9 => h9) rfl (tyX8_ok 6 (by decide)) rfl rfl (Nat.le_of_ble_eq_true rfl) dX8_goesOnNumber_62 (fun H locs hP hD hS => ?_)
        have hP : va_P (dC, dI) vwCl [(h0, .inr (8, [.ref e0, .int (nI cl), .ref e2, .int (nI ol), .int i4, .int i5, .int x_25, .int i7])), (e0, .inl (k0, 60, .inl f_24)), (e2, .inl (k2, 60, .inl g0))] H := hP
        have hD : va_D A [(h0, .inr (8, [.ref e0, .int (nI cl), .ref e2, .int (nI ol), .int i4, .int i5, .int x_25, .int i7])), (e0, .inl (k0, 60, .inl f_24)), (e2, .inl (k2, 60, .inl g0))] := hD
        refine lv_iconst (v := 1) hx hb dX8_goesOnNumber_65 (by decide) ?_
        have hP9 := hP.sub (ws' := [(h0, .inr (8, [.ref e0, .int (nI cl), .ref e2, .int (nI ol), .int i4, .int i5, .int x_25, .int i7])), (e0, .inl (k0, 60, .inl f_24)), (e2, .inl (k2, 60, .inl g0))]) [0, 1, 2] rfl
        have hD9 := hD.sub (ws' := [(h0, .inr (8, [.ref e0, .int (nI cl), .ref e2, .int (nI ol), .int i4, .int i5, .int x_25, .int i7])), (e0, .inl (k0, 60, .inl f_24)), (e2, .inl (k2, 60, .inl g0))]) [0, 1, 2] (by decide) rfl
        have hK9 := hK.sub (tys' := [(k0, .int), (k2, .char)]) [0, 1] rfl
        exact W.zret (v := 1) hx hb hr (by decide) (fun t ht hW => ⟨⟨1, 1, rfl, rfl, Or.inl ⟨cl, ol, i4, i5, x_25, i7, f_24, g0, rfl, (by omega), (by omega), by rw [ht]; exact hP9, va_K.moved hW.alike hK9, hD9⟩⟩, hS.F ht⟩) hS.2.2 dX8_goesOnNumber_66
      · have hn_c_19 := q_nle 1 cl c_19 rfl rfl (by omega) (by omega)
        refine lv_iconst (v := 0) hx hb dX8_goesOnNumber_23 (by decide) ?_
        have hP9 := hP.sub (ws' := [(h0, .inr (8, [.ref e0, .int (nI cl), .ref e2, .int (nI ol), .int i4, .int i5, .int i6, .int i7])), (e0, .inl (k0, 60, .inl f0)), (e2, .inl (k2, 60, .inl g0))]) [0, 1, 2] rfl
        have hD9 := hD.sub (ws' := [(h0, .inr (8, [.ref e0, .int (nI cl), .ref e2, .int (nI ol), .int i4, .int i5, .int i6, .int i7])), (e0, .inl (k0, 60, .inl f0)), (e2, .inl (k2, 60, .inl g0))]) [0, 1, 2] (by decide) rfl
        have hK9 := hK.sub (tys' := [(k0, .int), (k2, .char)]) [0, 1] rfl
        exact W.zret (v := 0) hx hb hr (by decide) (fun t ht hW => ⟨⟨0, 0, rfl, rfl, Or.inr (⟨cl, ol, i4, i5, i6, i7, f0, g0, rfl, (by omega), (by omega), by rw [ht]; exact hP9, va_K.moved hW.alike hK9, hD9⟩)⟩, hS.F ht⟩) hS.2.2 dX8_goesOnNumber_24
def wo_r_close : List Cond := [.fieldLink RX8 23 "TypingPool$Reader" "openLength" "I", .fieldLink RX8 15 "TypingPool$Reader" "open" "[C", .methodLink RX8 86 yX8_binding, .static yX8_binding, .initialized RX8, .methodLink RX8 72 yX8_write, .instanceMethod yX8_write, .selects RX8 yX8_write yX8_write]
def wm_r_close : List Cond := .code yX8_close cX8_close 2 none :: (wo_r_close ++ (wsX80 ++ (wm_r_binding ++ (wm_r_write ++ ([] : List Cond)))))
theorem gd_r_close : ∀ w ∈ wm_r_close, goodWord w = true := gd_c rfl (gd_a (by decide) (gd_a gd_wsX80 (gd_a gd_r_binding (gd_a gd_r_write gd_nil))))
set_option maxRecDepth 20000 in
theorem im_r_close : ∀ w ∈ wm_r_close, w ∈ lw_tbl := im_c (in_r [.code yX8_close cX8_close 2 none] [356] (by decide +kernel)) (in_app (in_r wo_r_close [173, 172, 357, 358, 73, 333, 335, 1] (by decide +kernel)) (in_app im_wsX80 (in_app im_r_binding (in_app im_r_write im_nil))))
set_option maxHeartbeats 4000000 in
set_option maxRecDepth 100000 in
theorem r_close (l : Launch) (dC : Nat → ClassId) (dI : Nat → Nat → Nat) (ad av : Nat → Nat) (sz : Nat) (h0 : Nat) (e0 : Nat) (e2 : Nat) (cl : Nat) (ol : Nat) (k0 : ClassId) (k2 : ClassId) (f0 : Nat → Int32) (g0 : Nat → Int32) (i4 : Int32) (i5 : Int32) (i6 : Int32) (i7 : Int32) (p0 : Int32) (hcl : cl ≤ 60) (hol : ol ≤ 60) : Met l yX8_close wm_r_close ({ frames := 2, cells := 0, slots := 0, locals := 60 }) (pr_ ad av (dC, dI) sz [.ref h0, .int p0] [(h0, .inr (8, [.ref e0, .int (nI cl), .ref e2, .int (nI ol), .int i4, .int i5, .int i6, .int i7])), (e0, .inl (k0, 60, .inl f0)), (e2, .inl (k2, 60, .inl g0))] [(k0, .int), (k2, .char)]) (va_Qv (fun (_ : Unit) => True) (fun (_ : Unit) (t : State) => (∃ (cl1 : Nat), ∃ (ol1 : Nat), ∃ (j4 : Int32), ∃ (j5 : Int32), ∃ (j6 : Int32), ∃ (j7 : Int32), ∃ (f1 : Nat → Int32), ∃ (g1 : Nat → Int32), cl1 ≤ 60 ∧ ol1 ≤ 60 ∧ po_ (dC, dI) (va_A [(h0, .inr (8, [.ref e0, .int (nI cl), .ref e2, .int (nI ol), .int i4, .int i5, .int i6, .int i7])), (e0, .inl (k0, 60, .inl f0)), (e2, .inl (k2, 60, .inl g0))] sz) [(h0, .inr (8, [.ref e0, .int (nI cl1), .ref e2, .int (nI ol1), .int j4, .int j5, .int j6, .int j7])), (e0, .inl (k0, 60, .inl f1)), (e2, .inl (k2, 60, .inl g1))] [(k0, .int), (k2, .char)] t)) (va_A [(h0, .inr (8, [.ref e0, .int (nI cl), .ref e2, .int (nI ol), .int i4, .int i5, .int i6, .int i7])), (e0, .inl (k0, 60, .inl f0)), (e2, .inl (k2, 60, .inl g0))] sz)) 0 0 (va_A [(h0, .inr (8, [.ref e0, .int (nI cl), .ref e2, .int (nI ol), .int i4, .int i5, .int i6, .int i7])), (e0, .inl (k0, 60, .inl f0)), (e2, .inl (k2, 60, .inl g0))] sz) := by
  refine Met.ofW (cc := cX8_close) (maxL := 2) (ret := none) (by decide) rfl ?_
  intro p e s m args below meth c s₁ B hml hv
  obtain ⟨rfl, hsz, hP, hK, hD0, hM⟩ := hv
  have hx := B.exec
  have hb := B.bytes
  have hr := B.returns
  have hts := atoms_spec (ws := wm_r_close) B.pre
  have hown : s.vm.findClass RX8 = some m.cls := findClass_of_methodNamed B.named
  have hlocks := B.notSynchronized
  subst hsz
  have hD := hD0.self (sz := s.heap.size)
  generalize hAe : va_A [(h0, .inr (8, [.ref e0, .int (nI cl), .ref e2, .int (nI ol), .int i4, .int i5, .int i6, .int i7])), (e0, .inl (k0, 60, .inl f0)), (e2, .inl (k2, 60, .inl g0))] s.heap.size = A at hD hM ⊢
  have hA : ∀ q : Nat, s.heap.size ≤ q → A q := fun q h => by rw [← hAe]; exact Or.inr h
  have hS : va_S A s.heap s.heap [] := va_S.rf
  have hP : va_P (dC, dI) vwCl [(h0, .inr (8, [.ref e0, .int (nI cl), .ref e2, .int (nI ol), .int i4, .int i5, .int i6, .int i7])), (e0, .inl (k0, 60, .inl f0)), (e2, .inl (k2, 60, .inl g0))] s.heap := hP
  have hl := lv_entry ([.ref h0, .int p0]) (n := 2) (Nat.le_of_ble_eq_true rfl)
  rw [lg_entry_eq]
  generalize (lg_sl ([.ref h0, .int p0]) ++ List.replicate (2 - (lg_sl ([.ref h0, .int p0])).length) Slot.unset).toArray = ls at hl ⊢
  have hl : lv_has ls 2 [(0, .ref h0), (1, .int p0)] := hl
  have loop_0 : ∀ (n : Nat) (cl : Nat) (ol : Nat) (i4 : Int32) (i5 : Int32) (i6 : Int32) (i7 : Int32) (f0 : Nat → Int32) (g0 : Nat → Int32) (H : Heap) (locs : List Loc) (ls : Array Slot), ol < n → cl ≤ 60 → ol ≤ 60 → va_K (dC, dI) vwCl [(k0, .int), (k2, .char)] s → va_P (dC, dI) vwCl [(h0, .inr (8, [.ref e0, .int (nI cl), .ref e2, .int (nI ol), .int i4, .int i5, .int i6, .int i7])), (e0, .inl (k0, 60, .inl f0)), (e2, .inl (k2, 60, .inl g0))] H → va_D A [(h0, .inr (8, [.ref e0, .int (nI cl), .ref e2, .int (nI ol), .int i4, .int i5, .int i6, .int i7])), (e0, .inl (k0, 60, .inl f0)), (e2, .inl (k2, 60, .inl g0))] → va_S A s.heap H locs → lv_has ls 2 [(0, .ref h0), (1, .int p0)] → W p l e (headSpec wm_r_close ({ frames := 2, cells := 0, slots := 0, locals := 60 })).room s m ([.ref h0, .int p0] : List Value).toArray below meth c H locs 0 0 (MQ below (va_Qv (fun (_ : Unit) => True) (fun (_ : Unit) (t : State) => (∃ (cl1 : Nat), ∃ (ol1 : Nat), ∃ (j4 : Int32), ∃ (j5 : Int32), ∃ (j6 : Int32), ∃ (j7 : Int32), ∃ (f1 : Nat → Int32), ∃ (g1 : Nat → Int32), cl1 ≤ 60 ∧ ol1 ≤ 60 ∧ po_ (dC, dI) A [(h0, .inr (8, [.ref e0, .int (nI cl1), .ref e2, .int (nI ol1), .int j4, .int j5, .int j6, .int j7])), (e0, .inl (k0, 60, .inl f1)), (e2, .inl (k2, 60, .inl g1))] [(k0, .int), (k2, .char)] t)) A) ([.ref h0, .int p0] : List Value).toArray s 0 0 A) (F0 m 0 ls []) := by
    intro n
    induction n with
    | zero => intro cl ol i4 i5 i6 i7 f0 g0 H locs ls hlt; exact absurd hlt (Nat.not_lt_zero _)
    | succ n ih_0 =>
      intro cl ol i4 i5 i6 i7 f0 g0 H locs ls hlt hcl hol hK hP hD hS hl
      refine lv_aload_n hx hb dX8_close_0 rfl (lv_at hl 0 rfl) ?_
      refine va_get (D := (dC, dI)) (ci := 8) (v := .int (nI ol)) (C := RX8) (T := TX8) (N := 8) hx hb hts (fun _ hh => (List.mem_cons_of_mem _ (List.mem_append_right _ (List.mem_append_left _ hh)))) hown hK hP 0 rfl rfl 3 (by decide) (hts (.fieldLink RX8 23 "TypingPool$Reader" "openLength" "I") (List.mem_cons_of_mem _ (List.mem_append_left _ (List.mem_of_getElem? (i := 0) rfl)))) (fun _ h9 => h9) rfl dX8_close_1 ?_
      refine lv_if_le (tgt := 55) hx hb dX8_close_4 (by decide) (fun c_26 => ?_) (fun c_26 => ?_)
      · have hn_c_26 := q_le ol 0 c_26 rfl rfl (by omega) (by omega)
        have hP9 := hP.sub (ws' := [(h0, .inr (8, [.ref e0, .int (nI cl), .ref e2, .int (nI ol), .int i4, .int i5, .int i6, .int i7])), (e0, .inl (k0, 60, .inl f0)), (e2, .inl (k2, 60, .inl g0))]) [0, 1, 2] rfl
        have hD9 := hD.sub (ws' := [(h0, .inr (8, [.ref e0, .int (nI cl), .ref e2, .int (nI ol), .int i4, .int i5, .int i6, .int i7])), (e0, .inl (k0, 60, .inl f0)), (e2, .inl (k2, 60, .inl g0))]) [0, 1, 2] (by decide) rfl
        have hK9 := hK.sub (tys' := [(k0, .int), (k2, .char)]) [0, 1] rfl
        exact W.vret hx hb hr (fun t ht hW => ⟨⟨(), rfl, trivial, ⟨cl, ol, i4, i5, i6, i7, f0, g0, hcl, hol, by rw [ht]; exact hP9, va_K.moved hW.alike hK9, hD9⟩⟩, hS.F ht⟩) hS.2.2 dX8_close_55
      · have hn_c_26 := q_nle ol 0 c_26 rfl rfl (by omega) (by omega)
        refine lv_aload_n hx hb dX8_close_7 rfl (lv_at hl 0 rfl) ?_
        refine va_get (D := (dC, dI)) (ci := 8) (v := .ref e2) (C := RX8) (T := TX8) (N := 8) hx hb hts (fun _ hh => (List.mem_cons_of_mem _ (List.mem_append_right _ (List.mem_append_left _ hh)))) hown hK hP 0 rfl rfl 2 (by decide) (hts (.fieldLink RX8 15 "TypingPool$Reader" "open" "[C") (List.mem_cons_of_mem _ (List.mem_append_left _ (List.mem_of_getElem? (i := 1) rfl)))) (fun _ h9 => h9) rfl dX8_close_8 ?_
        refine lv_aload_n hx hb dX8_close_11 rfl (lv_at hl 0 rfl) ?_
        refine va_get (D := (dC, dI)) (ci := 8) (v := .int (nI ol)) (C := RX8) (T := TX8) (N := 8) hx hb hts (fun _ hh => (List.mem_cons_of_mem _ (List.mem_append_right _ (List.mem_append_left _ hh)))) hown hK hP 0 rfl rfl 3 (by decide) (hts (.fieldLink RX8 23 "TypingPool$Reader" "openLength" "I") (List.mem_cons_of_mem _ (List.mem_append_left _ (List.mem_of_getElem? (i := 0) rfl)))) (fun _ h9 => h9) rfl dX8_close_12 ?_
        refine lv_iconst (v := 1) hx hb dX8_close_15 (by decide) ?_
        refine lv_isub hx hb dX8_close_16 ?_
        refine lq_top (v := nI (ol - 1)) (pk_sub (a := ol) (b := 1) (by omega)) ?_
        refine va_cald hx hb hK hP 2 1 rfl rfl (vp_in_nI (n := ol - 1) (by omega) (by omega)) dX8_close_17 ?_
        refine lv_topi (fun x_27 ex_27 => ?_)
        have hPc := hP.sub (ws' := []) [] rfl
        have hDc := hD.sub (ws' := []) [] (by decide) rfl
        have hKc := hK.sub (tys' := []) [] rfl
        have hFc := va_free (wc := []) hD hS hA [] rfl
        refine va_calli (va_runS (As := [.int x_27]) (rest := []) ⟨hx, hb, hml, hown, hts⟩ (r_binding l dC dI ad av H.size x_27 ) (va_cwS 1 hts (gi_3 (List.mem_cons_of_mem _ (List.mem_append_left _ (List.mem_of_getElem? (i := 2) rfl))) (List.mem_cons_of_mem _ (List.mem_append_left _ (List.mem_of_getElem? (i := 3) rfl))) (List.mem_cons_of_mem _ (List.mem_append_left _ (List.mem_of_getElem? (i := 4) rfl))) (fun _ hh => (List.mem_cons_of_mem _ (List.mem_append_right _ (List.mem_append_right _ (List.mem_append_left _ hh))))) gd_r_binding) rfl rfl rfl (by decide +kernel) ⟨Nat.le_of_ble_eq_true rfl, Nat.le_of_ble_eq_true rfl⟩) ⟨pr_blind, pr_use hPc hKc hDc hFc hS hM⟩ rfl rfl hl.1 rfl (lv_room (Nat.le_of_ble_eq_true rfl)) dX8_close_18 ⟨Nat.le_of_ble_eq_true rfl, Nat.le_of_ble_eq_true rfl⟩) hS (fun q _ h => hFc q h) hFc (fun r_28 u t H locs ht hvm hw hB hz1 hk1 hS => ?_)
        refine W.widen (k := 0) (n := 0) (Nat.le_of_ble_eq_true rfl) (Nat.le_of_ble_eq_true rfl) ?_
        subst hw
        obtain ⟨r_29, hre_30, hP1, hK1, hD1⟩ := hB
        refine lq_top (v := r_29) hre_30 ?_
        rw [ht] at hP1
        have hK1 := va_K.moved hvm.symm hK1
        obtain ⟨hP, hD⟩ := va_join (wr := [(h0, .inr (8, [.ref e0, .int (nI cl), .ref e2, .int (nI ol), .int i4, .int i5, .int i6, .int i7])), (e0, .inl (k0, 60, .inl f0)), (e2, .inl (k2, 60, .inl g0))]) (w1 := []) hP hD [] [0, 1, 2] rfl rfl (by decide) (by decide) hk1 hFc hP1 hD1
        have hK := (hK.sub (tys' := [(k0, .int), (k2, .char)]) [0, 1] rfl).app hK1
        have hP : va_P (dC, dI) vwCl [(h0, .inr (8, [.ref e0, .int (nI cl), .ref e2, .int (nI ol), .int i4, .int i5, .int i6, .int i7])), (e0, .inl (k0, 60, .inl f0)), (e2, .inl (k2, 60, .inl g0))] H := hP
        have hD : va_D A [(h0, .inr (8, [.ref e0, .int (nI cl), .ref e2, .int (nI ol), .int i4, .int i5, .int i6, .int i7])), (e0, .inl (k0, 60, .inl f0)), (e2, .inl (k2, 60, .inl g0))] := hD
        have hK : va_K (dC, dI) vwCl [(k0, .int), (k2, .char)] s := hK
        refine lv_iload_n hx hb dX8_close_21 rfl (lv_at hl 1 rfl) ?_
        refine lv_icmp_lt (tgt := 55) hx hb dX8_close_22 (by decide) (fun c_31 => ?_) (fun c_31 => ?_)
        · have hP9 := hP.sub (ws' := [(h0, .inr (8, [.ref e0, .int (nI cl), .ref e2, .int (nI ol), .int i4, .int i5, .int i6, .int i7])), (e0, .inl (k0, 60, .inl f0)), (e2, .inl (k2, 60, .inl g0))]) [0, 1, 2] rfl
          have hD9 := hD.sub (ws' := [(h0, .inr (8, [.ref e0, .int (nI cl), .ref e2, .int (nI ol), .int i4, .int i5, .int i6, .int i7])), (e0, .inl (k0, 60, .inl f0)), (e2, .inl (k2, 60, .inl g0))]) [0, 1, 2] (by decide) rfl
          have hK9 := hK.sub (tys' := [(k0, .int), (k2, .char)]) [0, 1] rfl
          exact W.vret hx hb hr (fun t ht hW => ⟨⟨(), rfl, trivial, ⟨cl, ol, i4, i5, i6, i7, f0, g0, hcl, hol, by rw [ht]; exact hP9, va_K.moved hW.alike hK9, hD9⟩⟩, hS.F ht⟩) hS.2.2 dX8_close_55
        · refine lv_aload_n hx hb dX8_close_25 rfl (lv_at hl 0 rfl) ?_
          refine lv_dup hx hb dX8_close_26 rfl ?_
          refine va_get (D := (dC, dI)) (ci := 8) (v := .int (nI ol)) (C := RX8) (T := TX8) (N := 8) hx hb hts (fun _ hh => (List.mem_cons_of_mem _ (List.mem_append_right _ (List.mem_append_left _ hh)))) hown hK hP 0 rfl rfl 3 (by decide) (hts (.fieldLink RX8 23 "TypingPool$Reader" "openLength" "I") (List.mem_cons_of_mem _ (List.mem_append_left _ (List.mem_of_getElem? (i := 0) rfl)))) (fun _ h9 => h9) rfl dX8_close_27 ?_
          refine lv_iconst (v := 1) hx hb dX8_close_30 (by decide) ?_
          refine lv_isub hx hb dX8_close_31 ?_
          refine lq_top (v := nI (ol - 1)) (pk_sub (a := ol) (b := 1) (by omega)) ?_
          refine va_put (D := (dC, dI)) (ci := 8) (v := .int (nI (ol - 1))) (ty := .int) (C := RX8) (T := TX8) (N := 8) hx hb hts (fun _ hh => (List.mem_cons_of_mem _ (List.mem_append_right _ (List.mem_append_left _ hh)))) tyX8 tyX8_ok nmX8 hown hK hP hD hS 0 rfl rfl 3 (by decide) (hts (.fieldLink RX8 23 "TypingPool$Reader" "openLength" "I") (List.mem_cons_of_mem _ (List.mem_append_left _ (List.mem_of_getElem? (i := 0) rfl)))) (fun _ h9 => h9) rfl (tyX8_ok 3 (by decide)) rfl rfl (Nat.le_of_ble_eq_true rfl) dX8_close_32 (fun H locs hP hD hS => ?_)
          have hP : va_P (dC, dI) vwCl [(h0, .inr (8, [.ref e0, .int (nI cl), .ref e2, .int (nI (ol - 1)), .int i4, .int i5, .int i6, .int i7])), (e0, .inl (k0, 60, .inl f0)), (e2, .inl (k2, 60, .inl g0))] H := hP
          have hD : va_D A [(h0, .inr (8, [.ref e0, .int (nI cl), .ref e2, .int (nI (ol - 1)), .int i4, .int i5, .int i6, .int i7])), (e0, .inl (k0, 60, .inl f0)), (e2, .inl (k2, 60, .inl g0))] := hD
          refine lv_aload_n hx hb dX8_close_35 rfl (lv_at hl 0 rfl) ?_
          refine lv_sipush (v := 20000) hx hb dX8_close_36 (by decide) ?_
          refine lv_aload_n hx hb dX8_close_39 rfl (lv_at hl 0 rfl) ?_
          refine va_get (D := (dC, dI)) (ci := 8) (v := .ref e2) (C := RX8) (T := TX8) (N := 8) hx hb hts (fun _ hh => (List.mem_cons_of_mem _ (List.mem_append_right _ (List.mem_append_left _ hh)))) hown hK hP 0 rfl rfl 2 (by decide) (hts (.fieldLink RX8 15 "TypingPool$Reader" "open" "[C") (List.mem_cons_of_mem _ (List.mem_append_left _ (List.mem_of_getElem? (i := 1) rfl)))) (fun _ h9 => h9) rfl dX8_close_40 ?_
          refine lv_aload_n hx hb dX8_close_43 rfl (lv_at hl 0 rfl) ?_
          refine va_get (D := (dC, dI)) (ci := 8) (v := .int (nI (ol - 1))) (C := RX8) (T := TX8) (N := 8) hx hb hts (fun _ hh => (List.mem_cons_of_mem _ (List.mem_append_right _ (List.mem_append_left _ hh)))) hown hK hP 0 rfl rfl 3 (by decide) (hts (.fieldLink RX8 23 "TypingPool$Reader" "openLength" "I") (List.mem_cons_of_mem _ (List.mem_append_left _ (List.mem_of_getElem? (i := 0) rfl)))) (fun _ h9 => h9) rfl dX8_close_44 ?_
          refine va_cald hx hb hK hP 2 1 rfl rfl (vp_in_nI (n := ol - 1) (by omega) (by omega)) dX8_close_47 ?_
          refine lv_topi (fun x_32 ex_32 => ?_)
          refine lv_iadd hx hb dX8_close_48 ?_
          refine lv_topi (fun x_33 ex_33 => ?_)
          have hPc := hP.sub (ws' := [(h0, .inr (8, [.ref e0, .int (nI cl), .ref e2, .int (nI (ol - 1)), .int i4, .int i5, .int i6, .int i7])), (e0, .inl (k0, 60, .inl f0)), (e2, .inl (k2, 60, .inl g0))]) [0, 1, 2] rfl
          have hDc := hD.sub (ws' := [(h0, .inr (8, [.ref e0, .int (nI cl), .ref e2, .int (nI (ol - 1)), .int i4, .int i5, .int i6, .int i7])), (e0, .inl (k0, 60, .inl f0)), (e2, .inl (k2, 60, .inl g0))]) [0, 1, 2] (by decide) rfl
          have hKc := hK.sub (tys' := [(k0, .int), (k2, .char)]) [0, 1] rfl
          have hFc := va_free (wc := [(h0, .inr (8, [.ref e0, .int (nI cl), .ref e2, .int (nI (ol - 1)), .int i4, .int i5, .int i6, .int i7])), (e0, .inl (k0, 60, .inl f0)), (e2, .inl (k2, 60, .inl g0))]) hD hS hA [0, 1, 2] rfl
          refine va_callv (va_runV (As := [.int x_33]) (rest := []) ⟨hx, hb, hml, hown, hts⟩ (r_write l dC dI ad av H.size h0 e0 e2 cl (ol - 1) k0 k2 f0 g0 i4 i5 i6 i7 x_33 hcl (by omega)) (cwV 1 hts (gi_4 (List.mem_cons_of_mem _ (List.mem_append_left _ (List.mem_of_getElem? (i := 5) rfl))) (List.mem_cons_of_mem _ (List.mem_append_left _ (List.mem_of_getElem? (i := 6) rfl))) (List.mem_cons_of_mem _ (List.mem_append_left _ (List.mem_of_getElem? (i := 7) rfl))) (List.mem_cons_of_mem _ (List.mem_append_left _ (List.mem_of_getElem? (i := 4) rfl))) (fun _ hh => (List.mem_cons_of_mem _ (List.mem_append_right _ (List.mem_append_right _ (List.mem_append_right _ (List.mem_append_left _ hh)))))) gd_r_write) rfl rfl rfl (by decide +kernel) ⟨Nat.le_of_ble_eq_true rfl, Nat.le_of_ble_eq_true rfl⟩) ⟨pr_blind, va_recv hKc hPc (ci := 8) (q0 := 0) rfl rfl, pr_use hPc hKc hDc hFc hS hM⟩ rfl rfl hl.1 rfl (lv_room (Nat.le_of_ble_eq_true rfl)) dX8_close_49 ⟨Nat.le_of_ble_eq_true rfl, Nat.le_of_ble_eq_true rfl⟩) hS (fun q _ h => hFc q h) hFc (fun u t H locs ht hvm hw hB hz1 hk1 hS => ?_)
          refine W.widen (k := 0) (n := 0) (Nat.le_of_ble_eq_true rfl) (Nat.le_of_ble_eq_true rfl) ?_
          obtain ⟨cl_35, f_36, hf_38, hP1, hK1, hD1⟩ := hB
          rw [ht] at hP1
          have hK1 := va_K.moved hvm.symm hK1
          obtain ⟨hP, hD⟩ := va_join (wr := []) (w1 := [(h0, .inr (8, [.ref e0, .int (nI cl_35), .ref e2, .int (nI (ol - 1)), .int i4, .int i5, .int i6, .int i7])), (e0, .inl (k0, 60, .inl f_36)), (e2, .inl (k2, 60, .inl g0))]) hP hD [0, 1, 2] [] rfl rfl (by decide) (by decide) hk1 hFc hP1 hD1
          have hK := (hK.sub (tys' := []) [] rfl).app hK1
          have hP : va_P (dC, dI) vwCl [(h0, .inr (8, [.ref e0, .int (nI cl_35), .ref e2, .int (nI (ol - 1)), .int i4, .int i5, .int i6, .int i7])), (e0, .inl (k0, 60, .inl f_36)), (e2, .inl (k2, 60, .inl g0))] H := hP
          have hD : va_D A [(h0, .inr (8, [.ref e0, .int (nI cl_35), .ref e2, .int (nI (ol - 1)), .int i4, .int i5, .int i6, .int i7])), (e0, .inl (k0, 60, .inl f_36)), (e2, .inl (k2, 60, .inl g0))] := hD
          have hK : va_K (dC, dI) vwCl [(k0, .int), (k2, .char)] s := hK
          refine lv_goto (tgt := 0) hx hb dX8_close_52 (by decide) ?_
          exact ih_0  cl_35 (ol - 1) i4 i5 i6 i7 f_36 g0 H _ ls (by omega) hf_38 (by omega) (hK.sub (tys' := [(k0, .int), (k2, .char)]) [0, 1] rfl) (hP.sub (ws' := [(h0, .inr (8, [.ref e0, .int (nI cl_35), .ref e2, .int (nI (ol - 1)), .int i4, .int i5, .int i6, .int i7])), (e0, .inl (k0, 60, .inl f_36)), (e2, .inl (k2, 60, .inl g0))]) [0, 1, 2] rfl) (hD.sub (ws' := [(h0, .inr (8, [.ref e0, .int (nI cl_35), .ref e2, .int (nI (ol - 1)), .int i4, .int i5, .int i6, .int i7])), (e0, .inl (k0, 60, .inl f_36)), (e2, .inl (k2, 60, .inl g0))]) [0, 1, 2] (by decide) rfl) hS (lv_sub hl [0, 1] rfl)
  exact loop_0 ((ol) + 1) cl ol i4 i5 i6 i7 f0 g0 s.heap _ ls (by omega) (by omega) (by omega) (hK.sub (tys' := [(k0, .int), (k2, .char)]) [0, 1] rfl) (hP.sub (ws' := [(h0, .inr (8, [.ref e0, .int (nI cl), .ref e2, .int (nI ol), .int i4, .int i5, .int i6, .int i7])), (e0, .inl (k0, 60, .inl f0)), (e2, .inl (k2, 60, .inl g0))]) [0, 1, 2] rfl) (hD.sub (ws' := [(h0, .inr (8, [.ref e0, .int (nI cl), .ref e2, .int (nI ol), .int i4, .int i5, .int i6, .int i7])), (e0, .inl (k0, 60, .inl f0)), (e2, .inl (k2, 60, .inl g0))]) [0, 1, 2] (by decide) rfl) hS (lv_sub hl [0, 1] rfl)
def wo_r_closesBracket : List Cond := [.fieldLink RX8 26 "TypingPool$Reader" "depth" "I", .methodLink RX8 53 yX8_close, .instanceMethod yX8_close, .selects RX8 yX8_close yX8_close, .initialized RX8, .fieldLink RX8 23 "TypingPool$Reader" "openLength" "I"]
def wm_r_closesBracket : List Cond := .code yX8_closesBracket cX8_closesBracket 1 (some .boolean) :: (wo_r_closesBracket ++ (wsX80 ++ (wm_r_close ++ ([] : List Cond))))
theorem gd_r_closesBracket : ∀ w ∈ wm_r_closesBracket, goodWord w = true := gd_c rfl (gd_a (by decide) (gd_a gd_wsX80 (gd_a gd_r_close gd_nil)))
set_option maxRecDepth 20000 in
theorem im_r_closesBracket : ∀ w ∈ wm_r_closesBracket, w ∈ lw_tbl := im_c (in_r [.code yX8_closesBracket cX8_closesBracket 1 (some .boolean)] [352] (by decide +kernel)) (in_app (in_r wo_r_closesBracket [174, 353, 355, 6, 73, 173] (by decide +kernel)) (in_app im_wsX80 (in_app im_r_close im_nil)))
set_option maxHeartbeats 4000000 in
set_option maxRecDepth 100000 in
theorem r_closesBracket (l : Launch) (dC : Nat → ClassId) (dI : Nat → Nat → Nat) (ad av : Nat → Nat) (sz : Nat) (h0 : Nat) (e0 : Nat) (e2 : Nat) (cl : Nat) (ol : Nat) (k0 : ClassId) (k2 : ClassId) (f0 : Nat → Int32) (g0 : Nat → Int32) (i4 : Int32) (i5 : Int32) (i6 : Int32) (i7 : Int32) (hcl : cl ≤ 60) (hol : ol ≤ 60) : Met l yX8_closesBracket wm_r_closesBracket ({ frames := 3, cells := 0, slots := 0, locals := 100 }) (pr_ ad av (dC, dI) sz [.ref h0] [(h0, .inr (8, [.ref e0, .int (nI cl), .ref e2, .int (nI ol), .int i4, .int i5, .int i6, .int i7])), (e0, .inl (k0, 60, .inl f0)), (e2, .inl (k2, 60, .inl g0))] [(k0, .int), (k2, .char)]) (va_Qi (fun (r u : Int32) => u = r) (fun (r : Int32) (t : State) => (∃ (cl1 : Nat), ∃ (ol1 : Nat), ∃ (j4 : Int32), ∃ (j5 : Int32), ∃ (j6 : Int32), ∃ (j7 : Int32), ∃ (f1 : Nat → Int32), ∃ (g1 : Nat → Int32), r = 1 ∧ cl1 ≤ 60 ∧ ol1 ≤ 60 ∧ po_ (dC, dI) (va_A [(h0, .inr (8, [.ref e0, .int (nI cl), .ref e2, .int (nI ol), .int i4, .int i5, .int i6, .int i7])), (e0, .inl (k0, 60, .inl f0)), (e2, .inl (k2, 60, .inl g0))] sz) [(h0, .inr (8, [.ref e0, .int (nI cl1), .ref e2, .int (nI ol1), .int j4, .int j5, .int j6, .int j7])), (e0, .inl (k0, 60, .inl f1)), (e2, .inl (k2, 60, .inl g1))] [(k0, .int), (k2, .char)] t) ∨ (∃ (cl1 : Nat), ∃ (ol1 : Nat), ∃ (j4 : Int32), ∃ (j5 : Int32), ∃ (j6 : Int32), ∃ (j7 : Int32), ∃ (f1 : Nat → Int32), ∃ (g1 : Nat → Int32), r = 0 ∧ cl1 ≤ 60 ∧ ol1 ≤ 60 ∧ po_ (dC, dI) (va_A [(h0, .inr (8, [.ref e0, .int (nI cl), .ref e2, .int (nI ol), .int i4, .int i5, .int i6, .int i7])), (e0, .inl (k0, 60, .inl f0)), (e2, .inl (k2, 60, .inl g0))] sz) [(h0, .inr (8, [.ref e0, .int (nI cl1), .ref e2, .int (nI ol1), .int j4, .int j5, .int j6, .int j7])), (e0, .inl (k0, 60, .inl f1)), (e2, .inl (k2, 60, .inl g1))] [(k0, .int), (k2, .char)] t)) (va_A [(h0, .inr (8, [.ref e0, .int (nI cl), .ref e2, .int (nI ol), .int i4, .int i5, .int i6, .int i7])), (e0, .inl (k0, 60, .inl f0)), (e2, .inl (k2, 60, .inl g0))] sz)) 0 0 (va_A [(h0, .inr (8, [.ref e0, .int (nI cl), .ref e2, .int (nI ol), .int i4, .int i5, .int i6, .int i7])), (e0, .inl (k0, 60, .inl f0)), (e2, .inl (k2, 60, .inl g0))] sz) := by
  refine Met.ofW (cc := cX8_closesBracket) (maxL := 1) (ret := (some .boolean)) (by decide) rfl ?_
  intro p e s m args below meth c s₁ B hml hv
  obtain ⟨rfl, hsz, hP, hK, hD0, hM⟩ := hv
  have hx := B.exec
  have hb := B.bytes
  have hr := B.returns
  have hts := atoms_spec (ws := wm_r_closesBracket) B.pre
  have hown : s.vm.findClass RX8 = some m.cls := findClass_of_methodNamed B.named
  have hlocks := B.notSynchronized
  subst hsz
  have hD := hD0.self (sz := s.heap.size)
  generalize hAe : va_A [(h0, .inr (8, [.ref e0, .int (nI cl), .ref e2, .int (nI ol), .int i4, .int i5, .int i6, .int i7])), (e0, .inl (k0, 60, .inl f0)), (e2, .inl (k2, 60, .inl g0))] s.heap.size = A at hD hM ⊢
  have hA : ∀ q : Nat, s.heap.size ≤ q → A q := fun q h => by rw [← hAe]; exact Or.inr h
  have hS : va_S A s.heap s.heap [] := va_S.rf
  have hP : va_P (dC, dI) vwCl [(h0, .inr (8, [.ref e0, .int (nI cl), .ref e2, .int (nI ol), .int i4, .int i5, .int i6, .int i7])), (e0, .inl (k0, 60, .inl f0)), (e2, .inl (k2, 60, .inl g0))] s.heap := hP
  have hl := lv_entry ([.ref h0]) (n := 1) (Nat.le_of_ble_eq_true rfl)
  rw [lg_entry_eq]
  generalize (lg_sl ([.ref h0]) ++ List.replicate (1 - (lg_sl ([.ref h0])).length) Slot.unset).toArray = ls at hl ⊢
  have hl : lv_has ls 1 [(0, .ref h0)] := hl
  refine lv_aload_n hx hb dX8_closesBracket_0 rfl (lv_at hl 0 rfl) ?_
  refine va_get (D := (dC, dI)) (ci := 8) (v := .int i4) (C := RX8) (T := TX8) (N := 8) hx hb hts (fun _ hh => (List.mem_cons_of_mem _ (List.mem_append_right _ (List.mem_append_left _ hh)))) hown hK hP 0 rfl rfl 4 (by decide) (hts (.fieldLink RX8 26 "TypingPool$Reader" "depth" "I") (List.mem_cons_of_mem _ (List.mem_append_left _ (List.mem_of_getElem? (i := 0) rfl)))) (fun _ h9 => h9) rfl dX8_closesBracket_1 ?_
  refine lv_if_ne (tgt := 9) hx hb dX8_closesBracket_4 (by decide) (fun c_39 => ?_) (fun c_39 => ?_)
  · refine lv_aload_n hx hb dX8_closesBracket_9 rfl (lv_at hl 0 rfl) ?_
    refine lv_iconst (v := 1) hx hb dX8_closesBracket_10 (by decide) ?_
    have hPc := hP.sub (ws' := [(h0, .inr (8, [.ref e0, .int (nI cl), .ref e2, .int (nI ol), .int i4, .int i5, .int i6, .int i7])), (e0, .inl (k0, 60, .inl f0)), (e2, .inl (k2, 60, .inl g0))]) [0, 1, 2] rfl
    have hDc := hD.sub (ws' := [(h0, .inr (8, [.ref e0, .int (nI cl), .ref e2, .int (nI ol), .int i4, .int i5, .int i6, .int i7])), (e0, .inl (k0, 60, .inl f0)), (e2, .inl (k2, 60, .inl g0))]) [0, 1, 2] (by decide) rfl
    have hKc := hK.sub (tys' := [(k0, .int), (k2, .char)]) [0, 1] rfl
    have hFc := va_free (wc := [(h0, .inr (8, [.ref e0, .int (nI cl), .ref e2, .int (nI ol), .int i4, .int i5, .int i6, .int i7])), (e0, .inl (k0, 60, .inl f0)), (e2, .inl (k2, 60, .inl g0))]) hD hS hA [0, 1, 2] rfl
    refine va_callv (va_runV (As := [.int 1]) (rest := []) ⟨hx, hb, hml, hown, hts⟩ (r_close l dC dI ad av s.heap.size h0 e0 e2 cl ol k0 k2 f0 g0 i4 i5 i6 i7 1 (by omega) (by omega)) (cwV 1 hts (gi_4 (List.mem_cons_of_mem _ (List.mem_append_left _ (List.mem_of_getElem? (i := 1) rfl))) (List.mem_cons_of_mem _ (List.mem_append_left _ (List.mem_of_getElem? (i := 2) rfl))) (List.mem_cons_of_mem _ (List.mem_append_left _ (List.mem_of_getElem? (i := 3) rfl))) (List.mem_cons_of_mem _ (List.mem_append_left _ (List.mem_of_getElem? (i := 4) rfl))) (fun _ hh => (List.mem_cons_of_mem _ (List.mem_append_right _ (List.mem_append_right _ (List.mem_append_left _ hh))))) gd_r_close) rfl rfl rfl (by decide +kernel) ⟨Nat.le_of_ble_eq_true rfl, Nat.le_of_ble_eq_true rfl⟩) ⟨pr_blind, va_recv hKc hPc (ci := 8) (q0 := 0) rfl rfl, pr_use hPc hKc hDc hFc hS hM⟩ rfl rfl hl.1 rfl (lv_room (Nat.le_of_ble_eq_true rfl)) dX8_closesBracket_11 ⟨Nat.le_of_ble_eq_true rfl, Nat.le_of_ble_eq_true rfl⟩) hS (fun q _ h => hFc q h) hFc (fun u t H locs ht hvm hw hB hz1 hk1 hS => ?_)
    refine W.widen (k := 0) (n := 0) (Nat.le_of_ble_eq_true rfl) (Nat.le_of_ble_eq_true rfl) ?_
    obtain ⟨cl_41, ol_42, j_43, j_44, j_45, j_46, f_47, g_48, hf_50, hf_51, hP1, hK1, hD1⟩ := hB
    rw [ht] at hP1
    have hK1 := va_K.moved hvm.symm hK1
    obtain ⟨hP, hD⟩ := va_join (wr := []) (w1 := [(h0, .inr (8, [.ref e0, .int (nI cl_41), .ref e2, .int (nI ol_42), .int j_43, .int j_44, .int j_45, .int j_46])), (e0, .inl (k0, 60, .inl f_47)), (e2, .inl (k2, 60, .inl g_48))]) hP hD [0, 1, 2] [] rfl rfl (by decide) (by decide) hk1 hFc hP1 hD1
    have hK := (hK.sub (tys' := []) [] rfl).app hK1
    have hP : va_P (dC, dI) vwCl [(h0, .inr (8, [.ref e0, .int (nI cl_41), .ref e2, .int (nI ol_42), .int j_43, .int j_44, .int j_45, .int j_46])), (e0, .inl (k0, 60, .inl f_47)), (e2, .inl (k2, 60, .inl g_48))] H := hP
    have hD : va_D A [(h0, .inr (8, [.ref e0, .int (nI cl_41), .ref e2, .int (nI ol_42), .int j_43, .int j_44, .int j_45, .int j_46])), (e0, .inl (k0, 60, .inl f_47)), (e2, .inl (k2, 60, .inl g_48))] := hD
    have hK : va_K (dC, dI) vwCl [(k0, .int), (k2, .char)] s := hK
    refine lv_aload_n hx hb dX8_closesBracket_14 rfl (lv_at hl 0 rfl) ?_
    refine va_get (D := (dC, dI)) (ci := 8) (v := .int (nI ol_42)) (C := RX8) (T := TX8) (N := 8) hx hb hts (fun _ hh => (List.mem_cons_of_mem _ (List.mem_append_right _ (List.mem_append_left _ hh)))) hown hK hP 0 rfl rfl 3 (by decide) (hts (.fieldLink RX8 23 "TypingPool$Reader" "openLength" "I") (List.mem_cons_of_mem _ (List.mem_append_left _ (List.mem_of_getElem? (i := 5) rfl)))) (fun _ h9 => h9) rfl dX8_closesBracket_15 ?_
    refine lv_if_le (tgt := 31) hx hb dX8_closesBracket_18 (by decide) (fun c_52 => ?_) (fun c_52 => ?_)
    · have hn_c_52 := q_le ol_42 0 c_52 rfl rfl (by omega) (by omega)
      refine lv_aload_n hx hb dX8_closesBracket_31 rfl (lv_at hl 0 rfl) ?_
      refine lv_dup hx hb dX8_closesBracket_32 rfl ?_
      refine va_get (D := (dC, dI)) (ci := 8) (v := .int j_43) (C := RX8) (T := TX8) (N := 8) hx hb hts (fun _ hh => (List.mem_cons_of_mem _ (List.mem_append_right _ (List.mem_append_left _ hh)))) hown hK hP 0 rfl rfl 4 (by decide) (hts (.fieldLink RX8 26 "TypingPool$Reader" "depth" "I") (List.mem_cons_of_mem _ (List.mem_append_left _ (List.mem_of_getElem? (i := 0) rfl)))) (fun _ h9 => h9) rfl dX8_closesBracket_33 ?_
      refine lv_iconst (v := 1) hx hb dX8_closesBracket_36 (by decide) ?_
      refine lv_isub hx hb dX8_closesBracket_37 ?_
      refine lv_topi (fun x_53 ex_53 => ?_)
      refine va_put (D := (dC, dI)) (ci := 8) (v := .int x_53) (ty := .int) (C := RX8) (T := TX8) (N := 8) hx hb hts (fun _ hh => (List.mem_cons_of_mem _ (List.mem_append_right _ (List.mem_append_left _ hh)))) tyX8 tyX8_ok nmX8 hown hK hP hD hS 0 rfl rfl 4 (by decide) (hts (.fieldLink RX8 26 "TypingPool$Reader" "depth" "I") (List.mem_cons_of_mem _ (List.mem_append_left _ (List.mem_of_getElem? (i := 0) rfl)))) (fun _ h9 => h9) rfl (tyX8_ok 4 (by decide)) rfl rfl (Nat.le_of_ble_eq_true rfl) dX8_closesBracket_38 (fun H locs hP hD hS => ?_)
      have hP : va_P (dC, dI) vwCl [(h0, .inr (8, [.ref e0, .int (nI cl_41), .ref e2, .int (nI ol_42), .int x_53, .int j_44, .int j_45, .int j_46])), (e0, .inl (k0, 60, .inl f_47)), (e2, .inl (k2, 60, .inl g_48))] H := hP
      have hD : va_D A [(h0, .inr (8, [.ref e0, .int (nI cl_41), .ref e2, .int (nI ol_42), .int x_53, .int j_44, .int j_45, .int j_46])), (e0, .inl (k0, 60, .inl f_47)), (e2, .inl (k2, 60, .inl g_48))] := hD
      refine lv_iconst (v := 1) hx hb dX8_closesBracket_41 (by decide) ?_
      have hP9 := hP.sub (ws' := [(h0, .inr (8, [.ref e0, .int (nI cl_41), .ref e2, .int (nI ol_42), .int x_53, .int j_44, .int j_45, .int j_46])), (e0, .inl (k0, 60, .inl f_47)), (e2, .inl (k2, 60, .inl g_48))]) [0, 1, 2] rfl
      have hD9 := hD.sub (ws' := [(h0, .inr (8, [.ref e0, .int (nI cl_41), .ref e2, .int (nI ol_42), .int x_53, .int j_44, .int j_45, .int j_46])), (e0, .inl (k0, 60, .inl f_47)), (e2, .inl (k2, 60, .inl g_48))]) [0, 1, 2] (by decide) rfl
      have hK9 := hK.sub (tys' := [(k0, .int), (k2, .char)]) [0, 1] rfl
      exact W.zret (v := 1) hx hb hr (by decide) (fun t ht hW => ⟨⟨1, 1, rfl, rfl, Or.inl ⟨cl_41, ol_42, x_53, j_44, j_45, j_46, f_47, g_48, rfl, hf_50, hf_51, by rw [ht]; exact hP9, va_K.moved hW.alike hK9, hD9⟩⟩, hS.F ht⟩) hS.2.2 dX8_closesBracket_42
    · have hn_c_52 := q_nle ol_42 0 c_52 rfl rfl (by omega) (by omega)
      refine lv_aload_n hx hb dX8_closesBracket_21 rfl (lv_at hl 0 rfl) ?_
      refine lv_dup hx hb dX8_closesBracket_22 rfl ?_
      refine va_get (D := (dC, dI)) (ci := 8) (v := .int (nI ol_42)) (C := RX8) (T := TX8) (N := 8) hx hb hts (fun _ hh => (List.mem_cons_of_mem _ (List.mem_append_right _ (List.mem_append_left _ hh)))) hown hK hP 0 rfl rfl 3 (by decide) (hts (.fieldLink RX8 23 "TypingPool$Reader" "openLength" "I") (List.mem_cons_of_mem _ (List.mem_append_left _ (List.mem_of_getElem? (i := 5) rfl)))) (fun _ h9 => h9) rfl dX8_closesBracket_23 ?_
      refine lv_iconst (v := 1) hx hb dX8_closesBracket_26 (by decide) ?_
      refine lv_isub hx hb dX8_closesBracket_27 ?_
      refine lq_top (v := nI (ol_42 - 1)) (pk_sub (a := ol_42) (b := 1) (by omega)) ?_
      refine va_put (D := (dC, dI)) (ci := 8) (v := .int (nI (ol_42 - 1))) (ty := .int) (C := RX8) (T := TX8) (N := 8) hx hb hts (fun _ hh => (List.mem_cons_of_mem _ (List.mem_append_right _ (List.mem_append_left _ hh)))) tyX8 tyX8_ok nmX8 hown hK hP hD hS 0 rfl rfl 3 (by decide) (hts (.fieldLink RX8 23 "TypingPool$Reader" "openLength" "I") (List.mem_cons_of_mem _ (List.mem_append_left _ (List.mem_of_getElem? (i := 5) rfl)))) (fun _ h9 => h9) rfl (tyX8_ok 3 (by decide)) rfl rfl (Nat.le_of_ble_eq_true rfl) dX8_closesBracket_28 (fun H locs hP hD hS => ?_)
      have hP : va_P (dC, dI) vwCl [(h0, .inr (8, [.ref e0, .int (nI cl_41), .ref e2, .int (nI (ol_42 - 1)), .int j_43, .int j_44, .int j_45, .int j_46])), (e0, .inl (k0, 60, .inl f_47)), (e2, .inl (k2, 60, .inl g_48))] H := hP
      have hD : va_D A [(h0, .inr (8, [.ref e0, .int (nI cl_41), .ref e2, .int (nI (ol_42 - 1)), .int j_43, .int j_44, .int j_45, .int j_46])), (e0, .inl (k0, 60, .inl f_47)), (e2, .inl (k2, 60, .inl g_48))] := hD
      refine lv_aload_n hx hb dX8_closesBracket_31 rfl (lv_at hl 0 rfl) ?_
      refine lv_dup hx hb dX8_closesBracket_32 rfl ?_
      refine va_get (D := (dC, dI)) (ci := 8) (v := .int j_43) (C := RX8) (T := TX8) (N := 8) hx hb hts (fun _ hh => (List.mem_cons_of_mem _ (List.mem_append_right _ (List.mem_append_left _ hh)))) hown hK hP 0 rfl rfl 4 (by decide) (hts (.fieldLink RX8 26 "TypingPool$Reader" "depth" "I") (List.mem_cons_of_mem _ (List.mem_append_left _ (List.mem_of_getElem? (i := 0) rfl)))) (fun _ h9 => h9) rfl dX8_closesBracket_33 ?_
      refine lv_iconst (v := 1) hx hb dX8_closesBracket_36 (by decide) ?_
      refine lv_isub hx hb dX8_closesBracket_37 ?_
      refine lv_topi (fun x_54 ex_54 => ?_)
      refine va_put (D := (dC, dI)) (ci := 8) (v := .int x_54) (ty := .int) (C := RX8) (T := TX8) (N := 8) hx hb hts (fun _ hh => (List.mem_cons_of_mem _ (List.mem_append_right _ (List.mem_append_left _ hh)))) tyX8 tyX8_ok nmX8 hown hK hP hD hS 0 rfl rfl 4 (by decide) (hts (.fieldLink RX8 26 "TypingPool$Reader" "depth" "I") (List.mem_cons_of_mem _ (List.mem_append_left _ (List.mem_of_getElem? (i := 0) rfl)))) (fun _ h9 => h9) rfl (tyX8_ok 4 (by decide)) rfl rfl (Nat.le_of_ble_eq_true rfl) dX8_closesBracket_38 (fun H locs hP hD hS => ?_)
      have hP : va_P (dC, dI) vwCl [(h0, .inr (8, [.ref e0, .int (nI cl_41), .ref e2, .int (nI (ol_42 - 1)), .int x_54, .int j_44, .int j_45, .int j_46])), (e0, .inl (k0, 60, .inl f_47)), (e2, .inl (k2, 60, .inl g_48))] H := hP
      have hD : va_D A [(h0, .inr (8, [.ref e0, .int (nI cl_41), .ref e2, .int (nI (ol_42 - 1)), .int x_54, .int j_44, .int j_45, .int j_46])), (e0, .inl (k0, 60, .inl f_47)), (e2, .inl (k2, 60, .inl g_48))] := hD
      refine lv_iconst (v := 1) hx hb dX8_closesBracket_41 (by decide) ?_
      have hP9 := hP.sub (ws' := [(h0, .inr (8, [.ref e0, .int (nI cl_41), .ref e2, .int (nI (ol_42 - 1)), .int x_54, .int j_44, .int j_45, .int j_46])), (e0, .inl (k0, 60, .inl f_47)), (e2, .inl (k2, 60, .inl g_48))]) [0, 1, 2] rfl
      have hD9 := hD.sub (ws' := [(h0, .inr (8, [.ref e0, .int (nI cl_41), .ref e2, .int (nI (ol_42 - 1)), .int x_54, .int j_44, .int j_45, .int j_46])), (e0, .inl (k0, 60, .inl f_47)), (e2, .inl (k2, 60, .inl g_48))]) [0, 1, 2] (by decide) rfl
      have hK9 := hK.sub (tys' := [(k0, .int), (k2, .char)]) [0, 1] rfl
      exact W.zret (v := 1) hx hb hr (by decide) (fun t ht hW => ⟨⟨1, 1, rfl, rfl, Or.inl ⟨cl_41, ol_42 - 1, x_54, j_44, j_45, j_46, f_47, g_48, rfl, hf_50, (by omega), by rw [ht]; exact hP9, va_K.moved hW.alike hK9, hD9⟩⟩, hS.F ht⟩) hS.2.2 dX8_closesBracket_42
  · refine lv_iconst (v := 0) hx hb dX8_closesBracket_7 (by decide) ?_
    have hP9 := hP.sub (ws' := [(h0, .inr (8, [.ref e0, .int (nI cl), .ref e2, .int (nI ol), .int i4, .int i5, .int i6, .int i7])), (e0, .inl (k0, 60, .inl f0)), (e2, .inl (k2, 60, .inl g0))]) [0, 1, 2] rfl
    have hD9 := hD.sub (ws' := [(h0, .inr (8, [.ref e0, .int (nI cl), .ref e2, .int (nI ol), .int i4, .int i5, .int i6, .int i7])), (e0, .inl (k0, 60, .inl f0)), (e2, .inl (k2, 60, .inl g0))]) [0, 1, 2] (by decide) rfl
    have hK9 := hK.sub (tys' := [(k0, .int), (k2, .char)]) [0, 1] rfl
    exact W.zret (v := 0) hx hb hr (by decide) (fun t ht hW => ⟨⟨0, 0, rfl, rfl, Or.inr (⟨cl, ol, i4, i5, i6, i7, f0, g0, rfl, (by omega), (by omega), by rw [ht]; exact hP9, va_K.moved hW.alike hK9, hD9⟩)⟩, hS.F ht⟩) hS.2.2 dX8_closesBracket_8
def wo_r_beginsThing : List Cond := [.methodLink RX8 63 yJ0_indexOf_0f7a4, .instanceMethod yJ0_indexOf_0f7a4, .selects RJ0 yJ0_indexOf_0f7a4 yJ0_indexOf_0f7a4, .initialized RJ0, .methodLink RX8 69 yX8_isDigit, .static yX8_isDigit, .initialized RX8, .methodLink RX8 72 yX8_write, .instanceMethod yX8_write, .selects RX8 yX8_write yX8_write, .fieldLink RX8 32 "TypingPool$Reader" "digits" "I", .fieldLink RX8 35 "TypingPool$Reader" "wantsThing" "Z", .methodLink RX8 75 yX8_keepOpen, .instanceMethod yX8_keepOpen, .selects RX8 yX8_keepOpen yX8_keepOpen, .fieldLink RX8 26 "TypingPool$Reader" "depth" "I", .fieldLink RX8 29 "TypingPool$Reader" "compared" "I"]
def wm_r_beginsThing : List Cond := .code yX8_beginsThing cX8_beginsThing 4 (some .boolean) :: (wo_r_beginsThing ++ (wm_j_indexOf1 ++ (wm_r_isDigit ++ (wm_r_write ++ (wsX80 ++ (wm_r_keepOpen ++ ([] : List Cond)))))))
theorem gd_r_beginsThing : ∀ w ∈ wm_r_beginsThing, goodWord w = true := gd_c rfl (gd_a (by decide) (gd_a gd_j_indexOf1 (gd_a gd_r_isDigit (gd_a gd_r_write (gd_a gd_wsX80 (gd_a gd_r_keepOpen gd_nil))))))
set_option maxRecDepth 20000 in
theorem im_r_beginsThing : ∀ w ∈ wm_r_beginsThing, w ∈ lw_tbl := im_c (in_r [.code yX8_beginsThing cX8_beginsThing 4 (some .boolean)] [265] (by decide +kernel)) (in_app (in_r wo_r_beginsThing [266, 267, 268, 74, 330, 331, 73, 333, 335, 1, 176, 177, 337, 339, 2, 174, 175] (by decide +kernel)) (in_app im_j_indexOf1 (in_app im_r_isDigit (in_app im_r_write (in_app im_wsX80 (in_app im_r_keepOpen im_nil))))))
set_option maxHeartbeats 4000000 in
set_option maxRecDepth 100000 in
theorem r_beginsThing (l : Launch) (dC : Nat → ClassId) (dI : Nat → Nat → Nat) (ad av : Nat → Nat) (sz : Nat) (h0 : Nat) (e0 : Nat) (e2 : Nat) (cl : Nat) (ol : Nat) (k0 : ClassId) (k2 : ClassId) (f0 : Nat → Int32) (g0 : Nat → Int32) (i4 : Int32) (i5 : Int32) (i6 : Int32) (i7 : Int32) (i : Nat) (p0 : Int32) (hcl : cl ≤ 60) (hol : ol ≤ 60) (hi : i < 9) : Met l yX8_beginsThing wm_r_beginsThing ({ frames := 8, cells := 0, slots := 0, locals := 250 }) (pr_ ad av (dC, dI) sz [.ref h0, .int p0, .ref (ad i)] [(h0, .inr (8, [.ref e0, .int (nI cl), .ref e2, .int (nI ol), .int i4, .int i5, .int i6, .int i7])), (e0, .inl (k0, 60, .inl f0)), (e2, .inl (k2, 60, .inl g0))] [(k0, .int), (k2, .char)]) (va_Qi (fun (r u : Int32) => u = r) (fun (r : Int32) (t : State) => (∃ (cl1 : Nat), ∃ (ol1 : Nat), ∃ (j4 : Int32), ∃ (j5 : Int32), ∃ (j6 : Int32), ∃ (j7 : Int32), ∃ (f1 : Nat → Int32), ∃ (g1 : Nat → Int32), r = 1 ∧ cl1 ≤ 60 ∧ ol1 ≤ 60 ∧ po_ (dC, dI) (va_A [(h0, .inr (8, [.ref e0, .int (nI cl), .ref e2, .int (nI ol), .int i4, .int i5, .int i6, .int i7])), (e0, .inl (k0, 60, .inl f0)), (e2, .inl (k2, 60, .inl g0))] sz) [(h0, .inr (8, [.ref e0, .int (nI cl1), .ref e2, .int (nI ol1), .int j4, .int j5, .int j6, .int j7])), (e0, .inl (k0, 60, .inl f1)), (e2, .inl (k2, 60, .inl g1))] [(k0, .int), (k2, .char)] t) ∨ (∃ (cl1 : Nat), ∃ (ol1 : Nat), ∃ (j4 : Int32), ∃ (j5 : Int32), ∃ (j6 : Int32), ∃ (j7 : Int32), ∃ (f1 : Nat → Int32), ∃ (g1 : Nat → Int32), r = 0 ∧ cl1 ≤ 60 ∧ ol1 ≤ 60 ∧ po_ (dC, dI) (va_A [(h0, .inr (8, [.ref e0, .int (nI cl), .ref e2, .int (nI ol), .int i4, .int i5, .int i6, .int i7])), (e0, .inl (k0, 60, .inl f0)), (e2, .inl (k2, 60, .inl g0))] sz) [(h0, .inr (8, [.ref e0, .int (nI cl1), .ref e2, .int (nI ol1), .int j4, .int j5, .int j6, .int j7])), (e0, .inl (k0, 60, .inl f1)), (e2, .inl (k2, 60, .inl g1))] [(k0, .int), (k2, .char)] t)) (va_A [(h0, .inr (8, [.ref e0, .int (nI cl), .ref e2, .int (nI ol), .int i4, .int i5, .int i6, .int i7])), (e0, .inl (k0, 60, .inl f0)), (e2, .inl (k2, 60, .inl g0))] sz)) 0 0 (va_A [(h0, .inr (8, [.ref e0, .int (nI cl), .ref e2, .int (nI ol), .int i4, .int i5, .int i6, .int i7])), (e0, .inl (k0, 60, .inl f0)), (e2, .inl (k2, 60, .inl g0))] sz) := by
  refine Met.ofW (cc := cX8_beginsThing) (maxL := 4) (ret := (some .boolean)) (by decide) rfl ?_
  intro p e s m args below meth c s₁ B hml hv
  obtain ⟨rfl, hsz, hP, hK, hD0, hM⟩ := hv
  have hx := B.exec
  have hb := B.bytes
  have hr := B.returns
  have hts := atoms_spec (ws := wm_r_beginsThing) B.pre
  have hown : s.vm.findClass RX8 = some m.cls := findClass_of_methodNamed B.named
  have hlocks := B.notSynchronized
  subst hsz
  have hD := hD0.self (sz := s.heap.size)
  generalize hAe : va_A [(h0, .inr (8, [.ref e0, .int (nI cl), .ref e2, .int (nI ol), .int i4, .int i5, .int i6, .int i7])), (e0, .inl (k0, 60, .inl f0)), (e2, .inl (k2, 60, .inl g0))] s.heap.size = A at hD hM ⊢
  have hA : ∀ q : Nat, s.heap.size ≤ q → A q := fun q h => by rw [← hAe]; exact Or.inr h
  have hS : va_S A s.heap s.heap [] := va_S.rf
  have hP : va_P (dC, dI) vwCl [(h0, .inr (8, [.ref e0, .int (nI cl), .ref e2, .int (nI ol), .int i4, .int i5, .int i6, .int i7])), (e0, .inl (k0, 60, .inl f0)), (e2, .inl (k2, 60, .inl g0))] s.heap := hP
  have hl := lv_entry ([.ref h0, .int p0, .ref (ad i)]) (n := 4) (Nat.le_of_ble_eq_true rfl)
  rw [lg_entry_eq]
  generalize (lg_sl ([.ref h0, .int p0, .ref (ad i)]) ++ List.replicate (4 - (lg_sl ([.ref h0, .int p0, .ref (ad i)])).length) Slot.unset).toArray = ls at hl ⊢
  have hl : lv_has ls 4 [(0, .ref h0), (1, .int p0), (2, .ref (ad i))] := hl
  have hStr := st_at hM i hi
  have hsL := sL_le i
  obtain ⟨fS, hT⟩ := hStr.2.2.2
  refine lv_aload_n hx hb dX8_beginsThing_0 rfl (lv_at hl 2 rfl) ?_
  refine lv_iload_n hx hb dX8_beginsThing_1 rfl (lv_at hl 1 rfl) ?_
  have hPc := hP.sub (ws' := []) [] rfl
  have hDc := hD.sub (ws' := []) [] (by decide) rfl
  have hKc := hK.sub (tys' := []) [] rfl
  have hFc := va_free (wc := []) hD hS hA [] rfl
  refine va_calli (va_runV (As := [.int p0]) (rest := []) ⟨hx, hb, hml, hown, hts⟩ (j_indexOf1 l dC dI ad av s.heap.size i p0 (by omega)) (cwV 1 hts (gi_4 (List.mem_cons_of_mem _ (List.mem_append_left _ (List.mem_of_getElem? (i := 0) rfl))) (List.mem_cons_of_mem _ (List.mem_append_left _ (List.mem_of_getElem? (i := 1) rfl))) (List.mem_cons_of_mem _ (List.mem_append_left _ (List.mem_of_getElem? (i := 2) rfl))) (List.mem_cons_of_mem _ (List.mem_append_left _ (List.mem_of_getElem? (i := 3) rfl))) (fun _ hh => (List.mem_cons_of_mem _ (List.mem_append_right _ (List.mem_append_left _ hh)))) gd_j_indexOf1) rfl rfl rfl (by decide +kernel) ⟨Nat.le_of_ble_eq_true rfl, Nat.le_of_ble_eq_true rfl⟩) ⟨pr_blind, st_recv hStr hS, pr_use hPc hKc hDc hFc hS hM⟩ rfl rfl hl.1 rfl (lv_room (Nat.le_of_ble_eq_true rfl)) dX8_beginsThing_2 ⟨Nat.le_of_ble_eq_true rfl, Nat.le_of_ble_eq_true rfl⟩) hS (fun q _ h => hFc q h) hFc (fun r_55 u t H locs ht hvm hw hB hz1 hk1 hS => ?_)
  refine W.widen (k := 0) (n := 0) (Nat.le_of_ble_eq_true rfl) (Nat.le_of_ble_eq_true rfl) ?_
  subst hw
  obtain ⟨r_56, hre_57, hP1, hK1, hD1⟩ := hB
  refine lq_top (v := r_56) hre_57 ?_
  rw [ht] at hP1
  have hK1 := va_K.moved hvm.symm hK1
  obtain ⟨hP, hD⟩ := va_join (wr := [(h0, .inr (8, [.ref e0, .int (nI cl), .ref e2, .int (nI ol), .int i4, .int i5, .int i6, .int i7])), (e0, .inl (k0, 60, .inl f0)), (e2, .inl (k2, 60, .inl g0))]) (w1 := []) hP hD [] [0, 1, 2] rfl rfl (by decide) (by decide) hk1 hFc hP1 hD1
  have hK := (hK.sub (tys' := [(k0, .int), (k2, .char)]) [0, 1] rfl).app hK1
  have hP : va_P (dC, dI) vwCl [(h0, .inr (8, [.ref e0, .int (nI cl), .ref e2, .int (nI ol), .int i4, .int i5, .int i6, .int i7])), (e0, .inl (k0, 60, .inl f0)), (e2, .inl (k2, 60, .inl g0))] H := hP
  have hD : va_D A [(h0, .inr (8, [.ref e0, .int (nI cl), .ref e2, .int (nI ol), .int i4, .int i5, .int i6, .int i7])), (e0, .inl (k0, 60, .inl f0)), (e2, .inl (k2, 60, .inl g0))] := hD
  have hK : va_K (dC, dI) vwCl [(k0, .int), (k2, .char)] s := hK
  refine lv_istore_n (lv' := [(3, .int r_56), (0, .ref h0), (1, .int p0), (2, .ref (ad i))]) hx hb dX8_beginsThing_5 rfl hl (by decide) rfl (fun ls hl => ?_)
  refine lv_iload_n hx hb dX8_beginsThing_6 rfl (lv_at hl 2 rfl) ?_
  have hPc := hP.sub (ws' := []) [] rfl
  have hDc := hD.sub (ws' := []) [] (by decide) rfl
  have hKc := hK.sub (tys' := []) [] rfl
  have hFc := va_free (wc := []) hD hS hA [] rfl
  refine va_calli (va_runS (As := [.int p0]) (rest := []) ⟨hx, hb, hml, hown, hts⟩ (r_isDigit l dC dI ad av H.size p0 ) (va_cwS 1 hts (gi_3 (List.mem_cons_of_mem _ (List.mem_append_left _ (List.mem_of_getElem? (i := 4) rfl))) (List.mem_cons_of_mem _ (List.mem_append_left _ (List.mem_of_getElem? (i := 5) rfl))) (List.mem_cons_of_mem _ (List.mem_append_left _ (List.mem_of_getElem? (i := 6) rfl))) (fun _ hh => (List.mem_cons_of_mem _ (List.mem_append_right _ (List.mem_append_right _ (List.mem_append_left _ hh))))) gd_r_isDigit) rfl rfl rfl (by decide +kernel) ⟨Nat.le_of_ble_eq_true rfl, Nat.le_of_ble_eq_true rfl⟩) ⟨pr_blind, pr_use hPc hKc hDc hFc hS hM⟩ rfl rfl hl.1 rfl (lv_room (Nat.le_of_ble_eq_true rfl)) dX8_beginsThing_7 ⟨Nat.le_of_ble_eq_true rfl, Nat.le_of_ble_eq_true rfl⟩) hS (fun q _ h => hFc q h) hFc (fun r_58 u t H locs ht hvm hw hB hz1 hk1 hS => ?_)
  refine W.widen (k := 0) (n := 0) (Nat.le_of_ble_eq_true rfl) (Nat.le_of_ble_eq_true rfl) ?_
  subst hw
  rcases hB with ⟨hre_59, hP1, hK1, hD1⟩ | ⟨hre_60, hP1, hK1, hD1⟩
  · refine lq_top (v := 1) hre_59 ?_
    rw [ht] at hP1
    have hK1 := va_K.moved hvm.symm hK1
    obtain ⟨hP, hD⟩ := va_join (wr := [(h0, .inr (8, [.ref e0, .int (nI cl), .ref e2, .int (nI ol), .int i4, .int i5, .int i6, .int i7])), (e0, .inl (k0, 60, .inl f0)), (e2, .inl (k2, 60, .inl g0))]) (w1 := []) hP hD [] [0, 1, 2] rfl rfl (by decide) (by decide) hk1 hFc hP1 hD1
    have hK := (hK.sub (tys' := [(k0, .int), (k2, .char)]) [0, 1] rfl).app hK1
    have hP : va_P (dC, dI) vwCl [(h0, .inr (8, [.ref e0, .int (nI cl), .ref e2, .int (nI ol), .int i4, .int i5, .int i6, .int i7])), (e0, .inl (k0, 60, .inl f0)), (e2, .inl (k2, 60, .inl g0))] H := hP
    have hD : va_D A [(h0, .inr (8, [.ref e0, .int (nI cl), .ref e2, .int (nI ol), .int i4, .int i5, .int i6, .int i7])), (e0, .inl (k0, 60, .inl f0)), (e2, .inl (k2, 60, .inl g0))] := hD
    have hK : va_K (dC, dI) vwCl [(k0, .int), (k2, .char)] s := hK
    refine lv_if_ne (tgt := 17) hx hb dX8_beginsThing_10 (by decide) (fun c_61 => ?_) (fun c_61 => absurd c_61 (by decide))
    refine lv_aload_n hx hb dX8_beginsThing_17 rfl (lv_at hl 1 rfl) ?_
    refine lv_iload_n hx hb dX8_beginsThing_18 rfl (lv_at hl 0 rfl) ?_
    refine lv_if_lt (tgt := 30) hx hb dX8_beginsThing_19 (by decide) (fun c_62 => ?_) (fun c_62 => ?_)
    · refine lv_iload_n hx hb dX8_beginsThing_30 rfl (lv_at hl 2 rfl) ?_
      refine lv_bipush (v := 48) hx hb dX8_beginsThing_31 (by decide) ?_
      refine lv_isub hx hb dX8_beginsThing_33 ?_
      refine lv_topi (fun x_63 ex_63 => ?_)
      have hPc := hP.sub (ws' := [(h0, .inr (8, [.ref e0, .int (nI cl), .ref e2, .int (nI ol), .int i4, .int i5, .int i6, .int i7])), (e0, .inl (k0, 60, .inl f0)), (e2, .inl (k2, 60, .inl g0))]) [0, 1, 2] rfl
      have hDc := hD.sub (ws' := [(h0, .inr (8, [.ref e0, .int (nI cl), .ref e2, .int (nI ol), .int i4, .int i5, .int i6, .int i7])), (e0, .inl (k0, 60, .inl f0)), (e2, .inl (k2, 60, .inl g0))]) [0, 1, 2] (by decide) rfl
      have hKc := hK.sub (tys' := [(k0, .int), (k2, .char)]) [0, 1] rfl
      have hFc := va_free (wc := [(h0, .inr (8, [.ref e0, .int (nI cl), .ref e2, .int (nI ol), .int i4, .int i5, .int i6, .int i7])), (e0, .inl (k0, 60, .inl f0)), (e2, .inl (k2, 60, .inl g0))]) hD hS hA [0, 1, 2] rfl
      refine va_callv (va_runV (As := [.int x_63]) (rest := []) ⟨hx, hb, hml, hown, hts⟩ (r_write l dC dI ad av H.size h0 e0 e2 cl ol k0 k2 f0 g0 i4 i5 i6 i7 x_63 (by omega) (by omega)) (cwV 1 hts (gi_4 (List.mem_cons_of_mem _ (List.mem_append_left _ (List.mem_of_getElem? (i := 7) rfl))) (List.mem_cons_of_mem _ (List.mem_append_left _ (List.mem_of_getElem? (i := 8) rfl))) (List.mem_cons_of_mem _ (List.mem_append_left _ (List.mem_of_getElem? (i := 9) rfl))) (List.mem_cons_of_mem _ (List.mem_append_left _ (List.mem_of_getElem? (i := 6) rfl))) (fun _ hh => (List.mem_cons_of_mem _ (List.mem_append_right _ (List.mem_append_right _ (List.mem_append_right _ (List.mem_append_left _ hh)))))) gd_r_write) rfl rfl rfl (by decide +kernel) ⟨Nat.le_of_ble_eq_true rfl, Nat.le_of_ble_eq_true rfl⟩) ⟨pr_blind, va_recv hKc hPc (ci := 8) (q0 := 0) rfl rfl, pr_use hPc hKc hDc hFc hS hM⟩ rfl rfl hl.1 rfl (lv_room (Nat.le_of_ble_eq_true rfl)) dX8_beginsThing_34 ⟨Nat.le_of_ble_eq_true rfl, Nat.le_of_ble_eq_true rfl⟩) hS (fun q _ h => hFc q h) hFc (fun u t H locs ht hvm hw hB hz1 hk1 hS => ?_)
      refine W.widen (k := 0) (n := 0) (Nat.le_of_ble_eq_true rfl) (Nat.le_of_ble_eq_true rfl) ?_
      obtain ⟨cl_65, f_66, hf_68, hP1, hK1, hD1⟩ := hB
      rw [ht] at hP1
      have hK1 := va_K.moved hvm.symm hK1
      obtain ⟨hP, hD⟩ := va_join (wr := []) (w1 := [(h0, .inr (8, [.ref e0, .int (nI cl_65), .ref e2, .int (nI ol), .int i4, .int i5, .int i6, .int i7])), (e0, .inl (k0, 60, .inl f_66)), (e2, .inl (k2, 60, .inl g0))]) hP hD [0, 1, 2] [] rfl rfl (by decide) (by decide) hk1 hFc hP1 hD1
      have hK := (hK.sub (tys' := []) [] rfl).app hK1
      have hP : va_P (dC, dI) vwCl [(h0, .inr (8, [.ref e0, .int (nI cl_65), .ref e2, .int (nI ol), .int i4, .int i5, .int i6, .int i7])), (e0, .inl (k0, 60, .inl f_66)), (e2, .inl (k2, 60, .inl g0))] H := hP
      have hD : va_D A [(h0, .inr (8, [.ref e0, .int (nI cl_65), .ref e2, .int (nI ol), .int i4, .int i5, .int i6, .int i7])), (e0, .inl (k0, 60, .inl f_66)), (e2, .inl (k2, 60, .inl g0))] := hD
      have hK : va_K (dC, dI) vwCl [(k0, .int), (k2, .char)] s := hK
      refine lv_aload_n hx hb dX8_beginsThing_37 rfl (lv_at hl 1 rfl) ?_
      refine lv_iload_n hx hb dX8_beginsThing_38 rfl (lv_at hl 0 rfl) ?_
      refine lv_if_lt (tgt := 46) hx hb dX8_beginsThing_39 (by decide) (fun c_69 => ?_) (fun c_69 => absurd c_69 (fun z => z c_62))
      refine lv_iconst (v := 1) hx hb dX8_beginsThing_46 (by decide) ?_
      refine va_put (D := (dC, dI)) (ci := 8) (v := .int 1) (ty := .int) (C := RX8) (T := TX8) (N := 8) hx hb hts (fun _ hh => (List.mem_cons_of_mem _ (List.mem_append_right _ (List.mem_append_right _ (List.mem_append_right _ (List.mem_append_right _ (List.mem_append_left _ hh))))))) tyX8 tyX8_ok nmX8 hown hK hP hD hS 0 rfl rfl 6 (by decide) (hts (.fieldLink RX8 32 "TypingPool$Reader" "digits" "I") (List.mem_cons_of_mem _ (List.mem_append_left _ (List.mem_of_getElem? (i := 10) rfl)))) (fun _ h9 => h9) rfl (tyX8_ok 6 (by decide)) rfl rfl (Nat.le_of_ble_eq_true rfl) dX8_beginsThing_47 (fun H locs hP hD hS => ?_)
      have hP : va_P (dC, dI) vwCl [(h0, .inr (8, [.ref e0, .int (nI cl_65), .ref e2, .int (nI ol), .int i4, .int i5, .int 1, .int i7])), (e0, .inl (k0, 60, .inl f_66)), (e2, .inl (k2, 60, .inl g0))] H := hP
      have hD : va_D A [(h0, .inr (8, [.ref e0, .int (nI cl_65), .ref e2, .int (nI ol), .int i4, .int i5, .int 1, .int i7])), (e0, .inl (k0, 60, .inl f_66)), (e2, .inl (k2, 60, .inl g0))] := hD
      refine lv_aload_n hx hb dX8_beginsThing_50 rfl (lv_at hl 1 rfl) ?_
      refine lv_iconst (v := 0) hx hb dX8_beginsThing_51 (by decide) ?_
      refine va_put (D := (dC, dI)) (ci := 8) (v := .int 0) (ty := .boolean) (C := RX8) (T := TX8) (N := 8) hx hb hts (fun _ hh => (List.mem_cons_of_mem _ (List.mem_append_right _ (List.mem_append_right _ (List.mem_append_right _ (List.mem_append_right _ (List.mem_append_left _ hh))))))) tyX8 tyX8_ok nmX8 hown hK hP hD hS 0 rfl rfl 7 (by decide) (hts (.fieldLink RX8 35 "TypingPool$Reader" "wantsThing" "Z") (List.mem_cons_of_mem _ (List.mem_append_left _ (List.mem_of_getElem? (i := 11) rfl)))) (fun _ h9 => h9) rfl (tyX8_ok 7 (by decide)) rfl rfl (Nat.le_of_ble_eq_true rfl) dX8_beginsThing_52 (fun H locs hP hD hS => ?_)
      have hP : va_P (dC, dI) vwCl [(h0, .inr (8, [.ref e0, .int (nI cl_65), .ref e2, .int (nI ol), .int i4, .int i5, .int 1, .int 0])), (e0, .inl (k0, 60, .inl f_66)), (e2, .inl (k2, 60, .inl g0))] H := hP
      have hD : va_D A [(h0, .inr (8, [.ref e0, .int (nI cl_65), .ref e2, .int (nI ol), .int i4, .int i5, .int 1, .int 0])), (e0, .inl (k0, 60, .inl f_66)), (e2, .inl (k2, 60, .inl g0))] := hD
      refine lv_iconst (v := 1) hx hb dX8_beginsThing_55 (by decide) ?_
      have hP9 := hP.sub (ws' := [(h0, .inr (8, [.ref e0, .int (nI cl_65), .ref e2, .int (nI ol), .int i4, .int i5, .int 1, .int 0])), (e0, .inl (k0, 60, .inl f_66)), (e2, .inl (k2, 60, .inl g0))]) [0, 1, 2] rfl
      have hD9 := hD.sub (ws' := [(h0, .inr (8, [.ref e0, .int (nI cl_65), .ref e2, .int (nI ol), .int i4, .int i5, .int 1, .int 0])), (e0, .inl (k0, 60, .inl f_66)), (e2, .inl (k2, 60, .inl g0))]) [0, 1, 2] (by decide) rfl
      have hK9 := hK.sub (tys' := [(k0, .int), (k2, .char)]) [0, 1] rfl
      exact W.zret (v := 1) hx hb hr (by decide) (fun t ht hW => ⟨⟨1, 1, rfl, rfl, Or.inl ⟨cl_65, ol, i4, i5, 1, 0, f_66, g0, rfl, hf_68, (by omega), by rw [ht]; exact hP9, va_K.moved hW.alike hK9, hD9⟩⟩, hS.F ht⟩) hS.2.2 dX8_beginsThing_56
    · refine lv_sipush (v := 10000) hx hb dX8_beginsThing_22 (by decide) ?_
      refine lv_iload_n hx hb dX8_beginsThing_25 rfl (lv_at hl 0 rfl) ?_
      refine lv_iadd hx hb dX8_beginsThing_26 ?_
      refine lv_topi (fun x_70 ex_70 => ?_)
      refine lv_goto (tgt := 34) hx hb dX8_beginsThing_27 (by decide) ?_
      have hPc := hP.sub (ws' := [(h0, .inr (8, [.ref e0, .int (nI cl), .ref e2, .int (nI ol), .int i4, .int i5, .int i6, .int i7])), (e0, .inl (k0, 60, .inl f0)), (e2, .inl (k2, 60, .inl g0))]) [0, 1, 2] rfl
      have hDc := hD.sub (ws' := [(h0, .inr (8, [.ref e0, .int (nI cl), .ref e2, .int (nI ol), .int i4, .int i5, .int i6, .int i7])), (e0, .inl (k0, 60, .inl f0)), (e2, .inl (k2, 60, .inl g0))]) [0, 1, 2] (by decide) rfl
      have hKc := hK.sub (tys' := [(k0, .int), (k2, .char)]) [0, 1] rfl
      have hFc := va_free (wc := [(h0, .inr (8, [.ref e0, .int (nI cl), .ref e2, .int (nI ol), .int i4, .int i5, .int i6, .int i7])), (e0, .inl (k0, 60, .inl f0)), (e2, .inl (k2, 60, .inl g0))]) hD hS hA [0, 1, 2] rfl
      refine va_callv (va_runV (As := [.int x_70]) (rest := []) ⟨hx, hb, hml, hown, hts⟩ (r_write l dC dI ad av H.size h0 e0 e2 cl ol k0 k2 f0 g0 i4 i5 i6 i7 x_70 (by omega) (by omega)) (cwV 1 hts (gi_4 (List.mem_cons_of_mem _ (List.mem_append_left _ (List.mem_of_getElem? (i := 7) rfl))) (List.mem_cons_of_mem _ (List.mem_append_left _ (List.mem_of_getElem? (i := 8) rfl))) (List.mem_cons_of_mem _ (List.mem_append_left _ (List.mem_of_getElem? (i := 9) rfl))) (List.mem_cons_of_mem _ (List.mem_append_left _ (List.mem_of_getElem? (i := 6) rfl))) (fun _ hh => (List.mem_cons_of_mem _ (List.mem_append_right _ (List.mem_append_right _ (List.mem_append_right _ (List.mem_append_left _ hh)))))) gd_r_write) rfl rfl rfl (by decide +kernel) ⟨Nat.le_of_ble_eq_true rfl, Nat.le_of_ble_eq_true rfl⟩) ⟨pr_blind, va_recv hKc hPc (ci := 8) (q0 := 0) rfl rfl, pr_use hPc hKc hDc hFc hS hM⟩ rfl rfl hl.1 rfl (lv_room (Nat.le_of_ble_eq_true rfl)) dX8_beginsThing_34 ⟨Nat.le_of_ble_eq_true rfl, Nat.le_of_ble_eq_true rfl⟩) hS (fun q _ h => hFc q h) hFc (fun u t H locs ht hvm hw hB hz1 hk1 hS => ?_)
      refine W.widen (k := 0) (n := 0) (Nat.le_of_ble_eq_true rfl) (Nat.le_of_ble_eq_true rfl) ?_
      obtain ⟨cl_72, f_73, hf_75, hP1, hK1, hD1⟩ := hB
      rw [ht] at hP1
      have hK1 := va_K.moved hvm.symm hK1
      obtain ⟨hP, hD⟩ := va_join (wr := []) (w1 := [(h0, .inr (8, [.ref e0, .int (nI cl_72), .ref e2, .int (nI ol), .int i4, .int i5, .int i6, .int i7])), (e0, .inl (k0, 60, .inl f_73)), (e2, .inl (k2, 60, .inl g0))]) hP hD [0, 1, 2] [] rfl rfl (by decide) (by decide) hk1 hFc hP1 hD1
      have hK := (hK.sub (tys' := []) [] rfl).app hK1
      have hP : va_P (dC, dI) vwCl [(h0, .inr (8, [.ref e0, .int (nI cl_72), .ref e2, .int (nI ol), .int i4, .int i5, .int i6, .int i7])), (e0, .inl (k0, 60, .inl f_73)), (e2, .inl (k2, 60, .inl g0))] H := hP
      have hD : va_D A [(h0, .inr (8, [.ref e0, .int (nI cl_72), .ref e2, .int (nI ol), .int i4, .int i5, .int i6, .int i7])), (e0, .inl (k0, 60, .inl f_73)), (e2, .inl (k2, 60, .inl g0))] := hD
      have hK : va_K (dC, dI) vwCl [(k0, .int), (k2, .char)] s := hK
      refine lv_aload_n hx hb dX8_beginsThing_37 rfl (lv_at hl 1 rfl) ?_
      refine lv_iload_n hx hb dX8_beginsThing_38 rfl (lv_at hl 0 rfl) ?_
      refine lv_if_lt (tgt := 46) hx hb dX8_beginsThing_39 (by decide) (fun c_76 => absurd c_76 c_62) (fun c_76 => ?_)
      refine lv_iconst (v := 0) hx hb dX8_beginsThing_42 (by decide) ?_
      refine lv_goto (tgt := 47) hx hb dX8_beginsThing_43 (by decide) ?_
      refine va_put (D := (dC, dI)) (ci := 8) (v := .int 0) (ty := .int) (C := RX8) (T := TX8) (N := 8) hx hb hts (fun _ hh => (List.mem_cons_of_mem _ (List.mem_append_right _ (List.mem_append_right _ (List.mem_append_right _ (List.mem_append_right _ (List.mem_append_left _ hh))))))) tyX8 tyX8_ok nmX8 hown hK hP hD hS 0 rfl rfl 6 (by decide) (hts (.fieldLink RX8 32 "TypingPool$Reader" "digits" "I") (List.mem_cons_of_mem _ (List.mem_append_left _ (List.mem_of_getElem? (i := 10) rfl)))) (fun _ h9 => h9) rfl (tyX8_ok 6 (by decide)) rfl rfl (Nat.le_of_ble_eq_true rfl) dX8_beginsThing_47 (fun H locs hP hD hS => ?_)
      have hP : va_P (dC, dI) vwCl [(h0, .inr (8, [.ref e0, .int (nI cl_72), .ref e2, .int (nI ol), .int i4, .int i5, .int 0, .int i7])), (e0, .inl (k0, 60, .inl f_73)), (e2, .inl (k2, 60, .inl g0))] H := hP
      have hD : va_D A [(h0, .inr (8, [.ref e0, .int (nI cl_72), .ref e2, .int (nI ol), .int i4, .int i5, .int 0, .int i7])), (e0, .inl (k0, 60, .inl f_73)), (e2, .inl (k2, 60, .inl g0))] := hD
      refine lv_aload_n hx hb dX8_beginsThing_50 rfl (lv_at hl 1 rfl) ?_
      refine lv_iconst (v := 0) hx hb dX8_beginsThing_51 (by decide) ?_
      refine va_put (D := (dC, dI)) (ci := 8) (v := .int 0) (ty := .boolean) (C := RX8) (T := TX8) (N := 8) hx hb hts (fun _ hh => (List.mem_cons_of_mem _ (List.mem_append_right _ (List.mem_append_right _ (List.mem_append_right _ (List.mem_append_right _ (List.mem_append_left _ hh))))))) tyX8 tyX8_ok nmX8 hown hK hP hD hS 0 rfl rfl 7 (by decide) (hts (.fieldLink RX8 35 "TypingPool$Reader" "wantsThing" "Z") (List.mem_cons_of_mem _ (List.mem_append_left _ (List.mem_of_getElem? (i := 11) rfl)))) (fun _ h9 => h9) rfl (tyX8_ok 7 (by decide)) rfl rfl (Nat.le_of_ble_eq_true rfl) dX8_beginsThing_52 (fun H locs hP hD hS => ?_)
      have hP : va_P (dC, dI) vwCl [(h0, .inr (8, [.ref e0, .int (nI cl_72), .ref e2, .int (nI ol), .int i4, .int i5, .int 0, .int 0])), (e0, .inl (k0, 60, .inl f_73)), (e2, .inl (k2, 60, .inl g0))] H := hP
      have hD : va_D A [(h0, .inr (8, [.ref e0, .int (nI cl_72), .ref e2, .int (nI ol), .int i4, .int i5, .int 0, .int 0])), (e0, .inl (k0, 60, .inl f_73)), (e2, .inl (k2, 60, .inl g0))] := hD
      refine lv_iconst (v := 1) hx hb dX8_beginsThing_55 (by decide) ?_
      have hP9 := hP.sub (ws' := [(h0, .inr (8, [.ref e0, .int (nI cl_72), .ref e2, .int (nI ol), .int i4, .int i5, .int 0, .int 0])), (e0, .inl (k0, 60, .inl f_73)), (e2, .inl (k2, 60, .inl g0))]) [0, 1, 2] rfl
      have hD9 := hD.sub (ws' := [(h0, .inr (8, [.ref e0, .int (nI cl_72), .ref e2, .int (nI ol), .int i4, .int i5, .int 0, .int 0])), (e0, .inl (k0, 60, .inl f_73)), (e2, .inl (k2, 60, .inl g0))]) [0, 1, 2] (by decide) rfl
      have hK9 := hK.sub (tys' := [(k0, .int), (k2, .char)]) [0, 1] rfl
      exact W.zret (v := 1) hx hb hr (by decide) (fun t ht hW => ⟨⟨1, 1, rfl, rfl, Or.inl ⟨cl_72, ol, i4, i5, 0, 0, f_73, g0, rfl, hf_75, (by omega), by rw [ht]; exact hP9, va_K.moved hW.alike hK9, hD9⟩⟩, hS.F ht⟩) hS.2.2 dX8_beginsThing_56
  · refine lq_top (v := 0) hre_60 ?_
    rw [ht] at hP1
    have hK1 := va_K.moved hvm.symm hK1
    obtain ⟨hP, hD⟩ := va_join (wr := [(h0, .inr (8, [.ref e0, .int (nI cl), .ref e2, .int (nI ol), .int i4, .int i5, .int i6, .int i7])), (e0, .inl (k0, 60, .inl f0)), (e2, .inl (k2, 60, .inl g0))]) (w1 := []) hP hD [] [0, 1, 2] rfl rfl (by decide) (by decide) hk1 hFc hP1 hD1
    have hK := (hK.sub (tys' := [(k0, .int), (k2, .char)]) [0, 1] rfl).app hK1
    have hP : va_P (dC, dI) vwCl [(h0, .inr (8, [.ref e0, .int (nI cl), .ref e2, .int (nI ol), .int i4, .int i5, .int i6, .int i7])), (e0, .inl (k0, 60, .inl f0)), (e2, .inl (k2, 60, .inl g0))] H := hP
    have hD : va_D A [(h0, .inr (8, [.ref e0, .int (nI cl), .ref e2, .int (nI ol), .int i4, .int i5, .int i6, .int i7])), (e0, .inl (k0, 60, .inl f0)), (e2, .inl (k2, 60, .inl g0))] := hD
    have hK : va_K (dC, dI) vwCl [(k0, .int), (k2, .char)] s := hK
    refine lv_if_ne (tgt := 17) hx hb dX8_beginsThing_10 (by decide) (fun c_77 => absurd c_77 (fun z => z (by decide))) (fun c_77 => ?_)
    refine lv_iload_n hx hb dX8_beginsThing_13 rfl (lv_at hl 0 rfl) ?_
    refine lv_if_lt (tgt := 57) hx hb dX8_beginsThing_14 (by decide) (fun c_78 => ?_) (fun c_78 => ?_)
    · refine lv_iload_n hx hb dX8_beginsThing_57 rfl (lv_at hl 2 rfl) ?_
      refine lv_bipush (v := 33) hx hb dX8_beginsThing_58 (by decide) ?_
      refine lv_icmp_eq (tgt := 69) hx hb dX8_beginsThing_60 (by decide) (fun c_79 => ?_) (fun c_79 => ?_)
      · refine lv_aload_n hx hb dX8_beginsThing_69 rfl (lv_at hl 1 rfl) ?_
        refine lv_iload_n hx hb dX8_beginsThing_70 rfl (lv_at hl 2 rfl) ?_
        refine lv_bipush (v := 45) hx hb dX8_beginsThing_71 (by decide) ?_
        refine lv_icmp_ne (tgt := 81) hx hb dX8_beginsThing_73 (by decide) (fun c_80 => ?_) (fun c_80 => ?_)
        · refine lv_iload_n hx hb dX8_beginsThing_81 rfl (lv_at hl 2 rfl) ?_
          have hPc := hP.sub (ws' := [(h0, .inr (8, [.ref e0, .int (nI cl), .ref e2, .int (nI ol), .int i4, .int i5, .int i6, .int i7])), (e0, .inl (k0, 60, .inl f0)), (e2, .inl (k2, 60, .inl g0))]) [0, 1, 2] rfl
          have hDc := hD.sub (ws' := [(h0, .inr (8, [.ref e0, .int (nI cl), .ref e2, .int (nI ol), .int i4, .int i5, .int i6, .int i7])), (e0, .inl (k0, 60, .inl f0)), (e2, .inl (k2, 60, .inl g0))]) [0, 1, 2] (by decide) rfl
          have hKc := hK.sub (tys' := [(k0, .int), (k2, .char)]) [0, 1] rfl
          have hFc := va_free (wc := [(h0, .inr (8, [.ref e0, .int (nI cl), .ref e2, .int (nI ol), .int i4, .int i5, .int i6, .int i7])), (e0, .inl (k0, 60, .inl f0)), (e2, .inl (k2, 60, .inl g0))]) hD hS hA [0, 1, 2] rfl
          refine va_callv (va_runV (As := [.int p0]) (rest := []) ⟨hx, hb, hml, hown, hts⟩ (r_keepOpen l dC dI ad av H.size h0 e0 e2 cl ol k0 k2 f0 g0 i4 i5 i6 i7 p0 (by omega) (by omega)) (cwV 1 hts (gi_4 (List.mem_cons_of_mem _ (List.mem_append_left _ (List.mem_of_getElem? (i := 12) rfl))) (List.mem_cons_of_mem _ (List.mem_append_left _ (List.mem_of_getElem? (i := 13) rfl))) (List.mem_cons_of_mem _ (List.mem_append_left _ (List.mem_of_getElem? (i := 14) rfl))) (List.mem_cons_of_mem _ (List.mem_append_left _ (List.mem_of_getElem? (i := 6) rfl))) (fun _ hh => (List.mem_cons_of_mem _ (List.mem_append_right _ (List.mem_append_right _ (List.mem_append_right _ (List.mem_append_right _ (List.mem_append_right _ (List.mem_append_left _ hh)))))))) gd_r_keepOpen) rfl rfl rfl (by decide +kernel) ⟨Nat.le_of_ble_eq_true rfl, Nat.le_of_ble_eq_true rfl⟩) ⟨pr_blind, va_recv hKc hPc (ci := 8) (q0 := 0) rfl rfl, pr_use hPc hKc hDc hFc hS hM⟩ rfl rfl hl.1 rfl (lv_room (Nat.le_of_ble_eq_true rfl)) dX8_beginsThing_82 ⟨Nat.le_of_ble_eq_true rfl, Nat.le_of_ble_eq_true rfl⟩) hS (fun q _ h => hFc q h) hFc (fun u t H locs ht hvm hw hB hz1 hk1 hS => ?_)
          refine W.widen (k := 0) (n := 0) (Nat.le_of_ble_eq_true rfl) (Nat.le_of_ble_eq_true rfl) ?_
          obtain ⟨ol_82, g_83, hf_85, hP1, hK1, hD1⟩ := hB
          rw [ht] at hP1
          have hK1 := va_K.moved hvm.symm hK1
          obtain ⟨hP, hD⟩ := va_join (wr := []) (w1 := [(h0, .inr (8, [.ref e0, .int (nI cl), .ref e2, .int (nI ol_82), .int i4, .int i5, .int i6, .int i7])), (e0, .inl (k0, 60, .inl f0)), (e2, .inl (k2, 60, .inl g_83))]) hP hD [0, 1, 2] [] rfl rfl (by decide) (by decide) hk1 hFc hP1 hD1
          have hK := (hK.sub (tys' := []) [] rfl).app hK1
          have hP : va_P (dC, dI) vwCl [(h0, .inr (8, [.ref e0, .int (nI cl), .ref e2, .int (nI ol_82), .int i4, .int i5, .int i6, .int i7])), (e0, .inl (k0, 60, .inl f0)), (e2, .inl (k2, 60, .inl g_83))] H := hP
          have hD : va_D A [(h0, .inr (8, [.ref e0, .int (nI cl), .ref e2, .int (nI ol_82), .int i4, .int i5, .int i6, .int i7])), (e0, .inl (k0, 60, .inl f0)), (e2, .inl (k2, 60, .inl g_83))] := hD
          have hK : va_K (dC, dI) vwCl [(k0, .int), (k2, .char)] s := hK
          refine lv_iconst (v := 1) hx hb dX8_beginsThing_85 (by decide) ?_
          have hP9 := hP.sub (ws' := [(h0, .inr (8, [.ref e0, .int (nI cl), .ref e2, .int (nI ol_82), .int i4, .int i5, .int i6, .int i7])), (e0, .inl (k0, 60, .inl f0)), (e2, .inl (k2, 60, .inl g_83))]) [0, 1, 2] rfl
          have hD9 := hD.sub (ws' := [(h0, .inr (8, [.ref e0, .int (nI cl), .ref e2, .int (nI ol_82), .int i4, .int i5, .int i6, .int i7])), (e0, .inl (k0, 60, .inl f0)), (e2, .inl (k2, 60, .inl g_83))]) [0, 1, 2] (by decide) rfl
          have hK9 := hK.sub (tys' := [(k0, .int), (k2, .char)]) [0, 1] rfl
          exact W.zret (v := 1) hx hb hr (by decide) (fun t ht hW => ⟨⟨1, 1, rfl, rfl, Or.inl ⟨cl, ol_82, i4, i5, i6, i7, f0, g_83, rfl, (by omega), hf_85, by rw [ht]; exact hP9, va_K.moved hW.alike hK9, hD9⟩⟩, hS.F ht⟩) hS.2.2 dX8_beginsThing_86
        · refine lv_bipush (v := 126) hx hb dX8_beginsThing_76 (by decide) ?_
          refine lv_goto (tgt := 82) hx hb dX8_beginsThing_78 (by decide) ?_
          have hPc := hP.sub (ws' := [(h0, .inr (8, [.ref e0, .int (nI cl), .ref e2, .int (nI ol), .int i4, .int i5, .int i6, .int i7])), (e0, .inl (k0, 60, .inl f0)), (e2, .inl (k2, 60, .inl g0))]) [0, 1, 2] rfl
          have hDc := hD.sub (ws' := [(h0, .inr (8, [.ref e0, .int (nI cl), .ref e2, .int (nI ol), .int i4, .int i5, .int i6, .int i7])), (e0, .inl (k0, 60, .inl f0)), (e2, .inl (k2, 60, .inl g0))]) [0, 1, 2] (by decide) rfl
          have hKc := hK.sub (tys' := [(k0, .int), (k2, .char)]) [0, 1] rfl
          have hFc := va_free (wc := [(h0, .inr (8, [.ref e0, .int (nI cl), .ref e2, .int (nI ol), .int i4, .int i5, .int i6, .int i7])), (e0, .inl (k0, 60, .inl f0)), (e2, .inl (k2, 60, .inl g0))]) hD hS hA [0, 1, 2] rfl
          refine va_callv (va_runV (As := [.int 126]) (rest := []) ⟨hx, hb, hml, hown, hts⟩ (r_keepOpen l dC dI ad av H.size h0 e0 e2 cl ol k0 k2 f0 g0 i4 i5 i6 i7 126 (by omega) (by omega)) (cwV 1 hts (gi_4 (List.mem_cons_of_mem _ (List.mem_append_left _ (List.mem_of_getElem? (i := 12) rfl))) (List.mem_cons_of_mem _ (List.mem_append_left _ (List.mem_of_getElem? (i := 13) rfl))) (List.mem_cons_of_mem _ (List.mem_append_left _ (List.mem_of_getElem? (i := 14) rfl))) (List.mem_cons_of_mem _ (List.mem_append_left _ (List.mem_of_getElem? (i := 6) rfl))) (fun _ hh => (List.mem_cons_of_mem _ (List.mem_append_right _ (List.mem_append_right _ (List.mem_append_right _ (List.mem_append_right _ (List.mem_append_right _ (List.mem_append_left _ hh)))))))) gd_r_keepOpen) rfl rfl rfl (by decide +kernel) ⟨Nat.le_of_ble_eq_true rfl, Nat.le_of_ble_eq_true rfl⟩) ⟨pr_blind, va_recv hKc hPc (ci := 8) (q0 := 0) rfl rfl, pr_use hPc hKc hDc hFc hS hM⟩ rfl rfl hl.1 rfl (lv_room (Nat.le_of_ble_eq_true rfl)) dX8_beginsThing_82 ⟨Nat.le_of_ble_eq_true rfl, Nat.le_of_ble_eq_true rfl⟩) hS (fun q _ h => hFc q h) hFc (fun u t H locs ht hvm hw hB hz1 hk1 hS => ?_)
          refine W.widen (k := 0) (n := 0) (Nat.le_of_ble_eq_true rfl) (Nat.le_of_ble_eq_true rfl) ?_
          obtain ⟨ol_87, g_88, hf_90, hP1, hK1, hD1⟩ := hB
          rw [ht] at hP1
          have hK1 := va_K.moved hvm.symm hK1
          obtain ⟨hP, hD⟩ := va_join (wr := []) (w1 := [(h0, .inr (8, [.ref e0, .int (nI cl), .ref e2, .int (nI ol_87), .int i4, .int i5, .int i6, .int i7])), (e0, .inl (k0, 60, .inl f0)), (e2, .inl (k2, 60, .inl g_88))]) hP hD [0, 1, 2] [] rfl rfl (by decide) (by decide) hk1 hFc hP1 hD1
          have hK := (hK.sub (tys' := []) [] rfl).app hK1
          have hP : va_P (dC, dI) vwCl [(h0, .inr (8, [.ref e0, .int (nI cl), .ref e2, .int (nI ol_87), .int i4, .int i5, .int i6, .int i7])), (e0, .inl (k0, 60, .inl f0)), (e2, .inl (k2, 60, .inl g_88))] H := hP
          have hD : va_D A [(h0, .inr (8, [.ref e0, .int (nI cl), .ref e2, .int (nI ol_87), .int i4, .int i5, .int i6, .int i7])), (e0, .inl (k0, 60, .inl f0)), (e2, .inl (k2, 60, .inl g_88))] := hD
          have hK : va_K (dC, dI) vwCl [(k0, .int), (k2, .char)] s := hK
          refine lv_iconst (v := 1) hx hb dX8_beginsThing_85 (by decide) ?_
          have hP9 := hP.sub (ws' := [(h0, .inr (8, [.ref e0, .int (nI cl), .ref e2, .int (nI ol_87), .int i4, .int i5, .int i6, .int i7])), (e0, .inl (k0, 60, .inl f0)), (e2, .inl (k2, 60, .inl g_88))]) [0, 1, 2] rfl
          have hD9 := hD.sub (ws' := [(h0, .inr (8, [.ref e0, .int (nI cl), .ref e2, .int (nI ol_87), .int i4, .int i5, .int i6, .int i7])), (e0, .inl (k0, 60, .inl f0)), (e2, .inl (k2, 60, .inl g_88))]) [0, 1, 2] (by decide) rfl
          have hK9 := hK.sub (tys' := [(k0, .int), (k2, .char)]) [0, 1] rfl
          exact W.zret (v := 1) hx hb hr (by decide) (fun t ht hW => ⟨⟨1, 1, rfl, rfl, Or.inl ⟨cl, ol_87, i4, i5, i6, i7, f0, g_88, rfl, (by omega), hf_90, by rw [ht]; exact hP9, va_K.moved hW.alike hK9, hD9⟩⟩, hS.F ht⟩) hS.2.2 dX8_beginsThing_86
      · refine lv_iload_n hx hb dX8_beginsThing_63 rfl (lv_at hl 2 rfl) ?_
        refine lv_bipush (v := 45) hx hb dX8_beginsThing_64 (by decide) ?_
        refine lv_icmp_ne (tgt := 87) hx hb dX8_beginsThing_66 (by decide) (fun c_91 => ?_) (fun c_91 => ?_)
        · refine lv_iload_n hx hb dX8_beginsThing_87 rfl (lv_at hl 2 rfl) ?_
          refine lv_bipush (v := 40) hx hb dX8_beginsThing_88 (by decide) ?_
          refine lv_icmp_ne (tgt := 102) hx hb dX8_beginsThing_90 (by decide) (fun c_92 => ?_) (fun c_92 => ?_)
          · refine lv_iconst (v := 0) hx hb dX8_beginsThing_102 (by decide) ?_
            have hP9 := hP.sub (ws' := [(h0, .inr (8, [.ref e0, .int (nI cl), .ref e2, .int (nI ol), .int i4, .int i5, .int i6, .int i7])), (e0, .inl (k0, 60, .inl f0)), (e2, .inl (k2, 60, .inl g0))]) [0, 1, 2] rfl
            have hD9 := hD.sub (ws' := [(h0, .inr (8, [.ref e0, .int (nI cl), .ref e2, .int (nI ol), .int i4, .int i5, .int i6, .int i7])), (e0, .inl (k0, 60, .inl f0)), (e2, .inl (k2, 60, .inl g0))]) [0, 1, 2] (by decide) rfl
            have hK9 := hK.sub (tys' := [(k0, .int), (k2, .char)]) [0, 1] rfl
            exact W.zret (v := 0) hx hb hr (by decide) (fun t ht hW => ⟨⟨0, 0, rfl, rfl, Or.inr (⟨cl, ol, i4, i5, i6, i7, f0, g0, rfl, (by omega), (by omega), by rw [ht]; exact hP9, va_K.moved hW.alike hK9, hD9⟩)⟩, hS.F ht⟩) hS.2.2 dX8_beginsThing_103
          · refine lv_aload_n hx hb dX8_beginsThing_93 rfl (lv_at hl 1 rfl) ?_
            refine va_get (D := (dC, dI)) (ci := 8) (v := .int i4) (C := RX8) (T := TX8) (N := 8) hx hb hts (fun _ hh => (List.mem_cons_of_mem _ (List.mem_append_right _ (List.mem_append_right _ (List.mem_append_right _ (List.mem_append_right _ (List.mem_append_left _ hh))))))) hown hK hP 0 rfl rfl 4 (by decide) (hts (.fieldLink RX8 26 "TypingPool$Reader" "depth" "I") (List.mem_cons_of_mem _ (List.mem_append_left _ (List.mem_of_getElem? (i := 15) rfl)))) (fun _ h9 => h9) rfl dX8_beginsThing_94 ?_
            refine lv_bipush (v := 6) hx hb dX8_beginsThing_97 (by decide) ?_
            refine lv_icmp_lt (tgt := 104) hx hb dX8_beginsThing_99 (by decide) (fun c_93 => ?_) (fun c_93 => ?_)
            · refine lv_aload_n hx hb dX8_beginsThing_104 rfl (lv_at hl 1 rfl) ?_
              refine lv_iload_n hx hb dX8_beginsThing_105 rfl (lv_at hl 2 rfl) ?_
              have hPc := hP.sub (ws' := [(h0, .inr (8, [.ref e0, .int (nI cl), .ref e2, .int (nI ol), .int i4, .int i5, .int i6, .int i7])), (e0, .inl (k0, 60, .inl f0)), (e2, .inl (k2, 60, .inl g0))]) [0, 1, 2] rfl
              have hDc := hD.sub (ws' := [(h0, .inr (8, [.ref e0, .int (nI cl), .ref e2, .int (nI ol), .int i4, .int i5, .int i6, .int i7])), (e0, .inl (k0, 60, .inl f0)), (e2, .inl (k2, 60, .inl g0))]) [0, 1, 2] (by decide) rfl
              have hKc := hK.sub (tys' := [(k0, .int), (k2, .char)]) [0, 1] rfl
              have hFc := va_free (wc := [(h0, .inr (8, [.ref e0, .int (nI cl), .ref e2, .int (nI ol), .int i4, .int i5, .int i6, .int i7])), (e0, .inl (k0, 60, .inl f0)), (e2, .inl (k2, 60, .inl g0))]) hD hS hA [0, 1, 2] rfl
              refine va_callv (va_runV (As := [.int p0]) (rest := []) ⟨hx, hb, hml, hown, hts⟩ (r_keepOpen l dC dI ad av H.size h0 e0 e2 cl ol k0 k2 f0 g0 i4 i5 i6 i7 p0 (by omega) (by omega)) (cwV 1 hts (gi_4 (List.mem_cons_of_mem _ (List.mem_append_left _ (List.mem_of_getElem? (i := 12) rfl))) (List.mem_cons_of_mem _ (List.mem_append_left _ (List.mem_of_getElem? (i := 13) rfl))) (List.mem_cons_of_mem _ (List.mem_append_left _ (List.mem_of_getElem? (i := 14) rfl))) (List.mem_cons_of_mem _ (List.mem_append_left _ (List.mem_of_getElem? (i := 6) rfl))) (fun _ hh => (List.mem_cons_of_mem _ (List.mem_append_right _ (List.mem_append_right _ (List.mem_append_right _ (List.mem_append_right _ (List.mem_append_right _ (List.mem_append_left _ hh)))))))) gd_r_keepOpen) rfl rfl rfl (by decide +kernel) ⟨Nat.le_of_ble_eq_true rfl, Nat.le_of_ble_eq_true rfl⟩) ⟨pr_blind, va_recv hKc hPc (ci := 8) (q0 := 0) rfl rfl, pr_use hPc hKc hDc hFc hS hM⟩ rfl rfl hl.1 rfl (lv_room (Nat.le_of_ble_eq_true rfl)) dX8_beginsThing_106 ⟨Nat.le_of_ble_eq_true rfl, Nat.le_of_ble_eq_true rfl⟩) hS (fun q _ h => hFc q h) hFc (fun u t H locs ht hvm hw hB hz1 hk1 hS => ?_)
              refine W.widen (k := 0) (n := 0) (Nat.le_of_ble_eq_true rfl) (Nat.le_of_ble_eq_true rfl) ?_
              obtain ⟨ol_95, g_96, hf_98, hP1, hK1, hD1⟩ := hB
              rw [ht] at hP1
              have hK1 := va_K.moved hvm.symm hK1
              obtain ⟨hP, hD⟩ := va_join (wr := []) (w1 := [(h0, .inr (8, [.ref e0, .int (nI cl), .ref e2, .int (nI ol_95), .int i4, .int i5, .int i6, .int i7])), (e0, .inl (k0, 60, .inl f0)), (e2, .inl (k2, 60, .inl g_96))]) hP hD [0, 1, 2] [] rfl rfl (by decide) (by decide) hk1 hFc hP1 hD1
              have hK := (hK.sub (tys' := []) [] rfl).app hK1
              have hP : va_P (dC, dI) vwCl [(h0, .inr (8, [.ref e0, .int (nI cl), .ref e2, .int (nI ol_95), .int i4, .int i5, .int i6, .int i7])), (e0, .inl (k0, 60, .inl f0)), (e2, .inl (k2, 60, .inl g_96))] H := hP
              have hD : va_D A [(h0, .inr (8, [.ref e0, .int (nI cl), .ref e2, .int (nI ol_95), .int i4, .int i5, .int i6, .int i7])), (e0, .inl (k0, 60, .inl f0)), (e2, .inl (k2, 60, .inl g_96))] := hD
              have hK : va_K (dC, dI) vwCl [(k0, .int), (k2, .char)] s := hK
              refine lv_aload_n hx hb dX8_beginsThing_109 rfl (lv_at hl 1 rfl) ?_
              refine lv_dup hx hb dX8_beginsThing_110 rfl ?_
              refine va_get (D := (dC, dI)) (ci := 8) (v := .int i4) (C := RX8) (T := TX8) (N := 8) hx hb hts (fun _ hh => (List.mem_cons_of_mem _ (List.mem_append_right _ (List.mem_append_right _ (List.mem_append_right _ (List.mem_append_right _ (List.mem_append_left _ hh))))))) hown hK hP 0 rfl rfl 4 (by decide) (hts (.fieldLink RX8 26 "TypingPool$Reader" "depth" "I") (List.mem_cons_of_mem _ (List.mem_append_left _ (List.mem_of_getElem? (i := 15) rfl)))) (fun _ h9 => h9) rfl dX8_beginsThing_111 ?_
              refine lv_iconst (v := 1) hx hb dX8_beginsThing_114 (by decide) ?_
              refine lv_iadd hx hb dX8_beginsThing_115 ?_
              refine lv_topi (fun x_99 ex_99 => ?_)
              refine va_put (D := (dC, dI)) (ci := 8) (v := .int x_99) (ty := .int) (C := RX8) (T := TX8) (N := 8) hx hb hts (fun _ hh => (List.mem_cons_of_mem _ (List.mem_append_right _ (List.mem_append_right _ (List.mem_append_right _ (List.mem_append_right _ (List.mem_append_left _ hh))))))) tyX8 tyX8_ok nmX8 hown hK hP hD hS 0 rfl rfl 4 (by decide) (hts (.fieldLink RX8 26 "TypingPool$Reader" "depth" "I") (List.mem_cons_of_mem _ (List.mem_append_left _ (List.mem_of_getElem? (i := 15) rfl)))) (fun _ h9 => h9) rfl (tyX8_ok 4 (by decide)) rfl rfl (Nat.le_of_ble_eq_true rfl) dX8_beginsThing_116 (fun H locs hP hD hS => ?_)
              have hP : va_P (dC, dI) vwCl [(h0, .inr (8, [.ref e0, .int (nI cl), .ref e2, .int (nI ol_95), .int x_99, .int i5, .int i6, .int i7])), (e0, .inl (k0, 60, .inl f0)), (e2, .inl (k2, 60, .inl g_96))] H := hP
              have hD : va_D A [(h0, .inr (8, [.ref e0, .int (nI cl), .ref e2, .int (nI ol_95), .int x_99, .int i5, .int i6, .int i7])), (e0, .inl (k0, 60, .inl f0)), (e2, .inl (k2, 60, .inl g_96))] := hD
              refine lv_aload_n hx hb dX8_beginsThing_119 rfl (lv_at hl 1 rfl) ?_
              refine lv_dup hx hb dX8_beginsThing_120 rfl ?_
              refine va_get (D := (dC, dI)) (ci := 8) (v := .int i5) (C := RX8) (T := TX8) (N := 8) hx hb hts (fun _ hh => (List.mem_cons_of_mem _ (List.mem_append_right _ (List.mem_append_right _ (List.mem_append_right _ (List.mem_append_right _ (List.mem_append_left _ hh))))))) hown hK hP 0 rfl rfl 5 (by decide) (hts (.fieldLink RX8 29 "TypingPool$Reader" "compared" "I") (List.mem_cons_of_mem _ (List.mem_append_left _ (List.mem_of_getElem? (i := 16) rfl)))) (fun _ h9 => h9) rfl dX8_beginsThing_121 ?_
              refine lv_iconst (v := 1) hx hb dX8_beginsThing_124 (by decide) ?_
              refine lv_aload_n hx hb dX8_beginsThing_125 rfl (lv_at hl 1 rfl) ?_
              refine va_get (D := (dC, dI)) (ci := 8) (v := .int x_99) (C := RX8) (T := TX8) (N := 8) hx hb hts (fun _ hh => (List.mem_cons_of_mem _ (List.mem_append_right _ (List.mem_append_right _ (List.mem_append_right _ (List.mem_append_right _ (List.mem_append_left _ hh))))))) hown hK hP 0 rfl rfl 4 (by decide) (hts (.fieldLink RX8 26 "TypingPool$Reader" "depth" "I") (List.mem_cons_of_mem _ (List.mem_append_left _ (List.mem_of_getElem? (i := 15) rfl)))) (fun _ h9 => h9) rfl dX8_beginsThing_126 ?_
              refine lv_ishl hx hb dX8_beginsThing_129 ?_
              refine lv_topi (fun x_100 ex_100 => ?_)
              refine lv_iconst (v := (-1)) hx hb dX8_beginsThing_130 (by decide) ?_
              refine lv_ixor hx hb dX8_beginsThing_131 ?_
              refine lv_topi (fun x_101 ex_101 => ?_)
              refine lv_iand hx hb dX8_beginsThing_132 ?_
              refine lv_topi (fun x_102 ex_102 => ?_)
              refine va_put (D := (dC, dI)) (ci := 8) (v := .int x_102) (ty := .int) (C := RX8) (T := TX8) (N := 8) hx hb hts (fun _ hh => (List.mem_cons_of_mem _ (List.mem_append_right _ (List.mem_append_right _ (List.mem_append_right _ (List.mem_append_right _ (List.mem_append_left _ hh))))))) tyX8 tyX8_ok nmX8 hown hK hP hD hS 0 rfl rfl 5 (by decide) (hts (.fieldLink RX8 29 "TypingPool$Reader" "compared" "I") (List.mem_cons_of_mem _ (List.mem_append_left _ (List.mem_of_getElem? (i := 16) rfl)))) (fun _ h9 => h9) rfl (tyX8_ok 5 (by decide)) rfl rfl (Nat.le_of_ble_eq_true rfl) dX8_beginsThing_133 (fun H locs hP hD hS => ?_)
              have hP : va_P (dC, dI) vwCl [(h0, .inr (8, [.ref e0, .int (nI cl), .ref e2, .int (nI ol_95), .int x_99, .int x_102, .int i6, .int i7])), (e0, .inl (k0, 60, .inl f0)), (e2, .inl (k2, 60, .inl g_96))] H := hP
              have hD : va_D A [(h0, .inr (8, [.ref e0, .int (nI cl), .ref e2, .int (nI ol_95), .int x_99, .int x_102, .int i6, .int i7])), (e0, .inl (k0, 60, .inl f0)), (e2, .inl (k2, 60, .inl g_96))] := hD
              refine lv_iconst (v := 1) hx hb dX8_beginsThing_136 (by decide) ?_
              have hP9 := hP.sub (ws' := [(h0, .inr (8, [.ref e0, .int (nI cl), .ref e2, .int (nI ol_95), .int x_99, .int x_102, .int i6, .int i7])), (e0, .inl (k0, 60, .inl f0)), (e2, .inl (k2, 60, .inl g_96))]) [0, 1, 2] rfl
              have hD9 := hD.sub (ws' := [(h0, .inr (8, [.ref e0, .int (nI cl), .ref e2, .int (nI ol_95), .int x_99, .int x_102, .int i6, .int i7])), (e0, .inl (k0, 60, .inl f0)), (e2, .inl (k2, 60, .inl g_96))]) [0, 1, 2] (by decide) rfl
              have hK9 := hK.sub (tys' := [(k0, .int), (k2, .char)]) [0, 1] rfl
              exact W.zret (v := 1) hx hb hr (by decide) (fun t ht hW => ⟨⟨1, 1, rfl, rfl, Or.inl ⟨cl, ol_95, x_99, x_102, i6, i7, f0, g_96, rfl, (by omega), hf_98, by rw [ht]; exact hP9, va_K.moved hW.alike hK9, hD9⟩⟩, hS.F ht⟩) hS.2.2 dX8_beginsThing_137
            · refine lv_iconst (v := 0) hx hb dX8_beginsThing_102 (by decide) ?_
              have hP9 := hP.sub (ws' := [(h0, .inr (8, [.ref e0, .int (nI cl), .ref e2, .int (nI ol), .int i4, .int i5, .int i6, .int i7])), (e0, .inl (k0, 60, .inl f0)), (e2, .inl (k2, 60, .inl g0))]) [0, 1, 2] rfl
              have hD9 := hD.sub (ws' := [(h0, .inr (8, [.ref e0, .int (nI cl), .ref e2, .int (nI ol), .int i4, .int i5, .int i6, .int i7])), (e0, .inl (k0, 60, .inl f0)), (e2, .inl (k2, 60, .inl g0))]) [0, 1, 2] (by decide) rfl
              have hK9 := hK.sub (tys' := [(k0, .int), (k2, .char)]) [0, 1] rfl
              exact W.zret (v := 0) hx hb hr (by decide) (fun t ht hW => ⟨⟨0, 0, rfl, rfl, Or.inr (⟨cl, ol, i4, i5, i6, i7, f0, g0, rfl, (by omega), (by omega), by rw [ht]; exact hP9, va_K.moved hW.alike hK9, hD9⟩)⟩, hS.F ht⟩) hS.2.2 dX8_beginsThing_103
        · refine lv_aload_n hx hb dX8_beginsThing_69 rfl (lv_at hl 1 rfl) ?_
          refine lv_iload_n hx hb dX8_beginsThing_70 rfl (lv_at hl 2 rfl) ?_
          refine lv_bipush (v := 45) hx hb dX8_beginsThing_71 (by decide) ?_
          refine lv_icmp_ne (tgt := 81) hx hb dX8_beginsThing_73 (by decide) (fun c_103 => absurd c_103 (fun z => z c_91)) (fun c_103 => ?_)
          refine lv_bipush (v := 126) hx hb dX8_beginsThing_76 (by decide) ?_
          refine lv_goto (tgt := 82) hx hb dX8_beginsThing_78 (by decide) ?_
          have hPc := hP.sub (ws' := [(h0, .inr (8, [.ref e0, .int (nI cl), .ref e2, .int (nI ol), .int i4, .int i5, .int i6, .int i7])), (e0, .inl (k0, 60, .inl f0)), (e2, .inl (k2, 60, .inl g0))]) [0, 1, 2] rfl
          have hDc := hD.sub (ws' := [(h0, .inr (8, [.ref e0, .int (nI cl), .ref e2, .int (nI ol), .int i4, .int i5, .int i6, .int i7])), (e0, .inl (k0, 60, .inl f0)), (e2, .inl (k2, 60, .inl g0))]) [0, 1, 2] (by decide) rfl
          have hKc := hK.sub (tys' := [(k0, .int), (k2, .char)]) [0, 1] rfl
          have hFc := va_free (wc := [(h0, .inr (8, [.ref e0, .int (nI cl), .ref e2, .int (nI ol), .int i4, .int i5, .int i6, .int i7])), (e0, .inl (k0, 60, .inl f0)), (e2, .inl (k2, 60, .inl g0))]) hD hS hA [0, 1, 2] rfl
          refine va_callv (va_runV (As := [.int 126]) (rest := []) ⟨hx, hb, hml, hown, hts⟩ (r_keepOpen l dC dI ad av H.size h0 e0 e2 cl ol k0 k2 f0 g0 i4 i5 i6 i7 126 (by omega) (by omega)) (cwV 1 hts (gi_4 (List.mem_cons_of_mem _ (List.mem_append_left _ (List.mem_of_getElem? (i := 12) rfl))) (List.mem_cons_of_mem _ (List.mem_append_left _ (List.mem_of_getElem? (i := 13) rfl))) (List.mem_cons_of_mem _ (List.mem_append_left _ (List.mem_of_getElem? (i := 14) rfl))) (List.mem_cons_of_mem _ (List.mem_append_left _ (List.mem_of_getElem? (i := 6) rfl))) (fun _ hh => (List.mem_cons_of_mem _ (List.mem_append_right _ (List.mem_append_right _ (List.mem_append_right _ (List.mem_append_right _ (List.mem_append_right _ (List.mem_append_left _ hh)))))))) gd_r_keepOpen) rfl rfl rfl (by decide +kernel) ⟨Nat.le_of_ble_eq_true rfl, Nat.le_of_ble_eq_true rfl⟩) ⟨pr_blind, va_recv hKc hPc (ci := 8) (q0 := 0) rfl rfl, pr_use hPc hKc hDc hFc hS hM⟩ rfl rfl hl.1 rfl (lv_room (Nat.le_of_ble_eq_true rfl)) dX8_beginsThing_82 ⟨Nat.le_of_ble_eq_true rfl, Nat.le_of_ble_eq_true rfl⟩) hS (fun q _ h => hFc q h) hFc (fun u t H locs ht hvm hw hB hz1 hk1 hS => ?_)
          refine W.widen (k := 0) (n := 0) (Nat.le_of_ble_eq_true rfl) (Nat.le_of_ble_eq_true rfl) ?_
          obtain ⟨ol_105, g_106, hf_108, hP1, hK1, hD1⟩ := hB
          rw [ht] at hP1
          have hK1 := va_K.moved hvm.symm hK1
          obtain ⟨hP, hD⟩ := va_join (wr := []) (w1 := [(h0, .inr (8, [.ref e0, .int (nI cl), .ref e2, .int (nI ol_105), .int i4, .int i5, .int i6, .int i7])), (e0, .inl (k0, 60, .inl f0)), (e2, .inl (k2, 60, .inl g_106))]) hP hD [0, 1, 2] [] rfl rfl (by decide) (by decide) hk1 hFc hP1 hD1
          have hK := (hK.sub (tys' := []) [] rfl).app hK1
          have hP : va_P (dC, dI) vwCl [(h0, .inr (8, [.ref e0, .int (nI cl), .ref e2, .int (nI ol_105), .int i4, .int i5, .int i6, .int i7])), (e0, .inl (k0, 60, .inl f0)), (e2, .inl (k2, 60, .inl g_106))] H := hP
          have hD : va_D A [(h0, .inr (8, [.ref e0, .int (nI cl), .ref e2, .int (nI ol_105), .int i4, .int i5, .int i6, .int i7])), (e0, .inl (k0, 60, .inl f0)), (e2, .inl (k2, 60, .inl g_106))] := hD
          have hK : va_K (dC, dI) vwCl [(k0, .int), (k2, .char)] s := hK
          refine lv_iconst (v := 1) hx hb dX8_beginsThing_85 (by decide) ?_
          have hP9 := hP.sub (ws' := [(h0, .inr (8, [.ref e0, .int (nI cl), .ref e2, .int (nI ol_105), .int i4, .int i5, .int i6, .int i7])), (e0, .inl (k0, 60, .inl f0)), (e2, .inl (k2, 60, .inl g_106))]) [0, 1, 2] rfl
          have hD9 := hD.sub (ws' := [(h0, .inr (8, [.ref e0, .int (nI cl), .ref e2, .int (nI ol_105), .int i4, .int i5, .int i6, .int i7])), (e0, .inl (k0, 60, .inl f0)), (e2, .inl (k2, 60, .inl g_106))]) [0, 1, 2] (by decide) rfl
          have hK9 := hK.sub (tys' := [(k0, .int), (k2, .char)]) [0, 1] rfl
          exact W.zret (v := 1) hx hb hr (by decide) (fun t ht hW => ⟨⟨1, 1, rfl, rfl, Or.inl ⟨cl, ol_105, i4, i5, i6, i7, f0, g_106, rfl, (by omega), hf_108, by rw [ht]; exact hP9, va_K.moved hW.alike hK9, hD9⟩⟩, hS.F ht⟩) hS.2.2 dX8_beginsThing_86
    · refine lv_aload_n hx hb dX8_beginsThing_17 rfl (lv_at hl 1 rfl) ?_
      refine lv_iload_n hx hb dX8_beginsThing_18 rfl (lv_at hl 0 rfl) ?_
      refine lv_if_lt (tgt := 30) hx hb dX8_beginsThing_19 (by decide) (fun c_109 => absurd c_109 c_78) (fun c_109 => ?_)
      refine lv_sipush (v := 10000) hx hb dX8_beginsThing_22 (by decide) ?_
      refine lv_iload_n hx hb dX8_beginsThing_25 rfl (lv_at hl 0 rfl) ?_
      refine lv_iadd hx hb dX8_beginsThing_26 ?_
      refine lv_topi (fun x_110 ex_110 => ?_)
      refine lv_goto (tgt := 34) hx hb dX8_beginsThing_27 (by decide) ?_
      have hPc := hP.sub (ws' := [(h0, .inr (8, [.ref e0, .int (nI cl), .ref e2, .int (nI ol), .int i4, .int i5, .int i6, .int i7])), (e0, .inl (k0, 60, .inl f0)), (e2, .inl (k2, 60, .inl g0))]) [0, 1, 2] rfl
      have hDc := hD.sub (ws' := [(h0, .inr (8, [.ref e0, .int (nI cl), .ref e2, .int (nI ol), .int i4, .int i5, .int i6, .int i7])), (e0, .inl (k0, 60, .inl f0)), (e2, .inl (k2, 60, .inl g0))]) [0, 1, 2] (by decide) rfl
      have hKc := hK.sub (tys' := [(k0, .int), (k2, .char)]) [0, 1] rfl
      have hFc := va_free (wc := [(h0, .inr (8, [.ref e0, .int (nI cl), .ref e2, .int (nI ol), .int i4, .int i5, .int i6, .int i7])), (e0, .inl (k0, 60, .inl f0)), (e2, .inl (k2, 60, .inl g0))]) hD hS hA [0, 1, 2] rfl
      refine va_callv (va_runV (As := [.int x_110]) (rest := []) ⟨hx, hb, hml, hown, hts⟩ (r_write l dC dI ad av H.size h0 e0 e2 cl ol k0 k2 f0 g0 i4 i5 i6 i7 x_110 (by omega) (by omega)) (cwV 1 hts (gi_4 (List.mem_cons_of_mem _ (List.mem_append_left _ (List.mem_of_getElem? (i := 7) rfl))) (List.mem_cons_of_mem _ (List.mem_append_left _ (List.mem_of_getElem? (i := 8) rfl))) (List.mem_cons_of_mem _ (List.mem_append_left _ (List.mem_of_getElem? (i := 9) rfl))) (List.mem_cons_of_mem _ (List.mem_append_left _ (List.mem_of_getElem? (i := 6) rfl))) (fun _ hh => (List.mem_cons_of_mem _ (List.mem_append_right _ (List.mem_append_right _ (List.mem_append_right _ (List.mem_append_left _ hh)))))) gd_r_write) rfl rfl rfl (by decide +kernel) ⟨Nat.le_of_ble_eq_true rfl, Nat.le_of_ble_eq_true rfl⟩) ⟨pr_blind, va_recv hKc hPc (ci := 8) (q0 := 0) rfl rfl, pr_use hPc hKc hDc hFc hS hM⟩ rfl rfl hl.1 rfl (lv_room (Nat.le_of_ble_eq_true rfl)) dX8_beginsThing_34 ⟨Nat.le_of_ble_eq_true rfl, Nat.le_of_ble_eq_true rfl⟩) hS (fun q _ h => hFc q h) hFc (fun u t H locs ht hvm hw hB hz1 hk1 hS => ?_)
      refine W.widen (k := 0) (n := 0) (Nat.le_of_ble_eq_true rfl) (Nat.le_of_ble_eq_true rfl) ?_
      obtain ⟨cl_112, f_113, hf_115, hP1, hK1, hD1⟩ := hB
      rw [ht] at hP1
      have hK1 := va_K.moved hvm.symm hK1
      obtain ⟨hP, hD⟩ := va_join (wr := []) (w1 := [(h0, .inr (8, [.ref e0, .int (nI cl_112), .ref e2, .int (nI ol), .int i4, .int i5, .int i6, .int i7])), (e0, .inl (k0, 60, .inl f_113)), (e2, .inl (k2, 60, .inl g0))]) hP hD [0, 1, 2] [] rfl rfl (by decide) (by decide) hk1 hFc hP1 hD1
      have hK := (hK.sub (tys' := []) [] rfl).app hK1
      have hP : va_P (dC, dI) vwCl [(h0, .inr (8, [.ref e0, .int (nI cl_112), .ref e2, .int (nI ol), .int i4, .int i5, .int i6, .int i7])), (e0, .inl (k0, 60, .inl f_113)), (e2, .inl (k2, 60, .inl g0))] H := hP
      have hD : va_D A [(h0, .inr (8, [.ref e0, .int (nI cl_112), .ref e2, .int (nI ol), .int i4, .int i5, .int i6, .int i7])), (e0, .inl (k0, 60, .inl f_113)), (e2, .inl (k2, 60, .inl g0))] := hD
      have hK : va_K (dC, dI) vwCl [(k0, .int), (k2, .char)] s := hK
      refine lv_aload_n hx hb dX8_beginsThing_37 rfl (lv_at hl 1 rfl) ?_
      refine lv_iload_n hx hb dX8_beginsThing_38 rfl (lv_at hl 0 rfl) ?_
      refine lv_if_lt (tgt := 46) hx hb dX8_beginsThing_39 (by decide) (fun c_116 => absurd c_116 c_78) (fun c_116 => ?_)
      refine lv_iconst (v := 0) hx hb dX8_beginsThing_42 (by decide) ?_
      refine lv_goto (tgt := 47) hx hb dX8_beginsThing_43 (by decide) ?_
      refine va_put (D := (dC, dI)) (ci := 8) (v := .int 0) (ty := .int) (C := RX8) (T := TX8) (N := 8) hx hb hts (fun _ hh => (List.mem_cons_of_mem _ (List.mem_append_right _ (List.mem_append_right _ (List.mem_append_right _ (List.mem_append_right _ (List.mem_append_left _ hh))))))) tyX8 tyX8_ok nmX8 hown hK hP hD hS 0 rfl rfl 6 (by decide) (hts (.fieldLink RX8 32 "TypingPool$Reader" "digits" "I") (List.mem_cons_of_mem _ (List.mem_append_left _ (List.mem_of_getElem? (i := 10) rfl)))) (fun _ h9 => h9) rfl (tyX8_ok 6 (by decide)) rfl rfl (Nat.le_of_ble_eq_true rfl) dX8_beginsThing_47 (fun H locs hP hD hS => ?_)
      have hP : va_P (dC, dI) vwCl [(h0, .inr (8, [.ref e0, .int (nI cl_112), .ref e2, .int (nI ol), .int i4, .int i5, .int 0, .int i7])), (e0, .inl (k0, 60, .inl f_113)), (e2, .inl (k2, 60, .inl g0))] H := hP
      have hD : va_D A [(h0, .inr (8, [.ref e0, .int (nI cl_112), .ref e2, .int (nI ol), .int i4, .int i5, .int 0, .int i7])), (e0, .inl (k0, 60, .inl f_113)), (e2, .inl (k2, 60, .inl g0))] := hD
      refine lv_aload_n hx hb dX8_beginsThing_50 rfl (lv_at hl 1 rfl) ?_
      refine lv_iconst (v := 0) hx hb dX8_beginsThing_51 (by decide) ?_
      refine va_put (D := (dC, dI)) (ci := 8) (v := .int 0) (ty := .boolean) (C := RX8) (T := TX8) (N := 8) hx hb hts (fun _ hh => (List.mem_cons_of_mem _ (List.mem_append_right _ (List.mem_append_right _ (List.mem_append_right _ (List.mem_append_right _ (List.mem_append_left _ hh))))))) tyX8 tyX8_ok nmX8 hown hK hP hD hS 0 rfl rfl 7 (by decide) (hts (.fieldLink RX8 35 "TypingPool$Reader" "wantsThing" "Z") (List.mem_cons_of_mem _ (List.mem_append_left _ (List.mem_of_getElem? (i := 11) rfl)))) (fun _ h9 => h9) rfl (tyX8_ok 7 (by decide)) rfl rfl (Nat.le_of_ble_eq_true rfl) dX8_beginsThing_52 (fun H locs hP hD hS => ?_)
      have hP : va_P (dC, dI) vwCl [(h0, .inr (8, [.ref e0, .int (nI cl_112), .ref e2, .int (nI ol), .int i4, .int i5, .int 0, .int 0])), (e0, .inl (k0, 60, .inl f_113)), (e2, .inl (k2, 60, .inl g0))] H := hP
      have hD : va_D A [(h0, .inr (8, [.ref e0, .int (nI cl_112), .ref e2, .int (nI ol), .int i4, .int i5, .int 0, .int 0])), (e0, .inl (k0, 60, .inl f_113)), (e2, .inl (k2, 60, .inl g0))] := hD
      refine lv_iconst (v := 1) hx hb dX8_beginsThing_55 (by decide) ?_
      have hP9 := hP.sub (ws' := [(h0, .inr (8, [.ref e0, .int (nI cl_112), .ref e2, .int (nI ol), .int i4, .int i5, .int 0, .int 0])), (e0, .inl (k0, 60, .inl f_113)), (e2, .inl (k2, 60, .inl g0))]) [0, 1, 2] rfl
      have hD9 := hD.sub (ws' := [(h0, .inr (8, [.ref e0, .int (nI cl_112), .ref e2, .int (nI ol), .int i4, .int i5, .int 0, .int 0])), (e0, .inl (k0, 60, .inl f_113)), (e2, .inl (k2, 60, .inl g0))]) [0, 1, 2] (by decide) rfl
      have hK9 := hK.sub (tys' := [(k0, .int), (k2, .char)]) [0, 1] rfl
      exact W.zret (v := 1) hx hb hr (by decide) (fun t ht hW => ⟨⟨1, 1, rfl, rfl, Or.inl ⟨cl_112, ol, i4, i5, 0, 0, f_113, g0, rfl, hf_115, (by omega), by rw [ht]; exact hP9, va_K.moved hW.alike hK9, hD9⟩⟩, hS.F ht⟩) hS.2.2 dX8_beginsThing_56
def wo_r_followsThing : List Cond := [.methodLink RX8 69 yX8_isDigit, .static yX8_isDigit, .initialized RX8, .methodLink RX8 79 yX8_goesOnNumber, .instanceMethod yX8_goesOnNumber, .selects RX8 yX8_goesOnNumber yX8_goesOnNumber, .fieldLink RX8 32 "TypingPool$Reader" "digits" "I", .methodLink RX8 86 yX8_binding, .static yX8_binding, .methodLink RX8 53 yX8_close, .instanceMethod yX8_close, .selects RX8 yX8_close yX8_close, .methodLink RX8 75 yX8_keepOpen, .instanceMethod yX8_keepOpen, .selects RX8 yX8_keepOpen yX8_keepOpen, .fieldLink RX8 35 "TypingPool$Reader" "wantsThing" "Z", .fieldLink RX8 29 "TypingPool$Reader" "compared" "I", .fieldLink RX8 26 "TypingPool$Reader" "depth" "I", .methodLink RX8 82 yX8_closesBracket, .instanceMethod yX8_closesBracket, .selects RX8 yX8_closesBracket yX8_closesBracket]
def wm_r_followsThing : List Cond := .code yX8_followsThing cX8_followsThing 3 (some .boolean) :: (wo_r_followsThing ++ (wm_r_isDigit ++ (wm_r_goesOnNumber ++ (wsX80 ++ (wm_r_binding ++ (wm_r_close ++ (wm_r_keepOpen ++ (wm_r_closesBracket ++ ([] : List Cond)))))))))
theorem gd_r_followsThing : ∀ w ∈ wm_r_followsThing, goodWord w = true := gd_c rfl (gd_a (by decide) (gd_a gd_r_isDigit (gd_a gd_r_goesOnNumber (gd_a gd_wsX80 (gd_a gd_r_binding (gd_a gd_r_close (gd_a gd_r_keepOpen (gd_a gd_r_closesBracket gd_nil))))))))
set_option maxRecDepth 20000 in
theorem im_r_followsThing : ∀ w ∈ wm_r_followsThing, w ∈ lw_tbl := im_c (in_r [.code yX8_followsThing cX8_followsThing 3 (some .boolean)] [344] (by decide +kernel)) (in_app (in_r wo_r_followsThing [330, 331, 73, 345, 347, 4, 176, 357, 358, 353, 355, 6, 337, 339, 2, 177, 175, 174, 349, 351, 5] (by decide +kernel)) (in_app im_r_isDigit (in_app im_r_goesOnNumber (in_app im_wsX80 (in_app im_r_binding (in_app im_r_close (in_app im_r_keepOpen (in_app im_r_closesBracket im_nil))))))))
set_option maxHeartbeats 4000000 in
set_option maxRecDepth 100000 in
theorem r_followsThing (l : Launch) (dC : Nat → ClassId) (dI : Nat → Nat → Nat) (ad av : Nat → Nat) (sz : Nat) (h0 : Nat) (e0 : Nat) (e2 : Nat) (cl : Nat) (ol : Nat) (k0 : ClassId) (k2 : ClassId) (f0 : Nat → Int32) (g0 : Nat → Int32) (i4 : Int32) (i5 : Int32) (i6 : Int32) (i7 : Int32) (p0 : Int32) (hcl : cl ≤ 60) (hol : ol ≤ 60) : Met l yX8_followsThing wm_r_followsThing ({ frames := 5, cells := 0, slots := 0, locals := 160 }) (pr_ ad av (dC, dI) sz [.ref h0, .int p0] [(h0, .inr (8, [.ref e0, .int (nI cl), .ref e2, .int (nI ol), .int i4, .int i5, .int i6, .int i7])), (e0, .inl (k0, 60, .inl f0)), (e2, .inl (k2, 60, .inl g0))] [(k0, .int), (k2, .char)]) (va_Qi (fun (r u : Int32) => u = r) (fun (r : Int32) (t : State) => (∃ (cl1 : Nat), ∃ (ol1 : Nat), ∃ (j4 : Int32), ∃ (j5 : Int32), ∃ (j6 : Int32), ∃ (j7 : Int32), ∃ (f1 : Nat → Int32), ∃ (g1 : Nat → Int32), r = 1 ∧ cl1 ≤ 60 ∧ ol1 ≤ 60 ∧ po_ (dC, dI) (va_A [(h0, .inr (8, [.ref e0, .int (nI cl), .ref e2, .int (nI ol), .int i4, .int i5, .int i6, .int i7])), (e0, .inl (k0, 60, .inl f0)), (e2, .inl (k2, 60, .inl g0))] sz) [(h0, .inr (8, [.ref e0, .int (nI cl1), .ref e2, .int (nI ol1), .int j4, .int j5, .int j6, .int j7])), (e0, .inl (k0, 60, .inl f1)), (e2, .inl (k2, 60, .inl g1))] [(k0, .int), (k2, .char)] t) ∨ (∃ (cl1 : Nat), ∃ (ol1 : Nat), ∃ (j4 : Int32), ∃ (j5 : Int32), ∃ (j6 : Int32), ∃ (j7 : Int32), ∃ (f1 : Nat → Int32), ∃ (g1 : Nat → Int32), r = 0 ∧ cl1 ≤ 60 ∧ ol1 ≤ 60 ∧ po_ (dC, dI) (va_A [(h0, .inr (8, [.ref e0, .int (nI cl), .ref e2, .int (nI ol), .int i4, .int i5, .int i6, .int i7])), (e0, .inl (k0, 60, .inl f0)), (e2, .inl (k2, 60, .inl g0))] sz) [(h0, .inr (8, [.ref e0, .int (nI cl1), .ref e2, .int (nI ol1), .int j4, .int j5, .int j6, .int j7])), (e0, .inl (k0, 60, .inl f1)), (e2, .inl (k2, 60, .inl g1))] [(k0, .int), (k2, .char)] t)) (va_A [(h0, .inr (8, [.ref e0, .int (nI cl), .ref e2, .int (nI ol), .int i4, .int i5, .int i6, .int i7])), (e0, .inl (k0, 60, .inl f0)), (e2, .inl (k2, 60, .inl g0))] sz)) 0 0 (va_A [(h0, .inr (8, [.ref e0, .int (nI cl), .ref e2, .int (nI ol), .int i4, .int i5, .int i6, .int i7])), (e0, .inl (k0, 60, .inl f0)), (e2, .inl (k2, 60, .inl g0))] sz) := by
  refine Met.ofW (cc := cX8_followsThing) (maxL := 3) (ret := (some .boolean)) (by decide) rfl ?_
  intro p e s m args below meth c s₁ B hml hv
  obtain ⟨rfl, hsz, hP, hK, hD0, hM⟩ := hv
  have hx := B.exec
  have hb := B.bytes
  have hr := B.returns
  have hts := atoms_spec (ws := wm_r_followsThing) B.pre
  have hown : s.vm.findClass RX8 = some m.cls := findClass_of_methodNamed B.named
  have hlocks := B.notSynchronized
  subst hsz
  have hD := hD0.self (sz := s.heap.size)
  generalize hAe : va_A [(h0, .inr (8, [.ref e0, .int (nI cl), .ref e2, .int (nI ol), .int i4, .int i5, .int i6, .int i7])), (e0, .inl (k0, 60, .inl f0)), (e2, .inl (k2, 60, .inl g0))] s.heap.size = A at hD hM ⊢
  have hA : ∀ q : Nat, s.heap.size ≤ q → A q := fun q h => by rw [← hAe]; exact Or.inr h
  have hS : va_S A s.heap s.heap [] := va_S.rf
  have hP : va_P (dC, dI) vwCl [(h0, .inr (8, [.ref e0, .int (nI cl), .ref e2, .int (nI ol), .int i4, .int i5, .int i6, .int i7])), (e0, .inl (k0, 60, .inl f0)), (e2, .inl (k2, 60, .inl g0))] s.heap := hP
  have hl := lv_entry ([.ref h0, .int p0]) (n := 3) (Nat.le_of_ble_eq_true rfl)
  rw [lg_entry_eq]
  generalize (lg_sl ([.ref h0, .int p0]) ++ List.replicate (3 - (lg_sl ([.ref h0, .int p0])).length) Slot.unset).toArray = ls at hl ⊢
  have hl : lv_has ls 3 [(0, .ref h0), (1, .int p0)] := hl
  refine lv_iload_n hx hb dX8_followsThing_0 rfl (lv_at hl 1 rfl) ?_
  have hPc := hP.sub (ws' := []) [] rfl
  have hDc := hD.sub (ws' := []) [] (by decide) rfl
  have hKc := hK.sub (tys' := []) [] rfl
  have hFc := va_free (wc := []) hD hS hA [] rfl
  refine va_calli (va_runS (As := [.int p0]) (rest := []) ⟨hx, hb, hml, hown, hts⟩ (r_isDigit l dC dI ad av s.heap.size p0 ) (va_cwS 1 hts (gi_3 (List.mem_cons_of_mem _ (List.mem_append_left _ (List.mem_of_getElem? (i := 0) rfl))) (List.mem_cons_of_mem _ (List.mem_append_left _ (List.mem_of_getElem? (i := 1) rfl))) (List.mem_cons_of_mem _ (List.mem_append_left _ (List.mem_of_getElem? (i := 2) rfl))) (fun _ hh => (List.mem_cons_of_mem _ (List.mem_append_right _ (List.mem_append_left _ hh)))) gd_r_isDigit) rfl rfl rfl (by decide +kernel) ⟨Nat.le_of_ble_eq_true rfl, Nat.le_of_ble_eq_true rfl⟩) ⟨pr_blind, pr_use hPc hKc hDc hFc hS hM⟩ rfl rfl hl.1 rfl (lv_room (Nat.le_of_ble_eq_true rfl)) dX8_followsThing_1 ⟨Nat.le_of_ble_eq_true rfl, Nat.le_of_ble_eq_true rfl⟩) hS (fun q _ h => hFc q h) hFc (fun r_117 u t H locs ht hvm hw hB hz1 hk1 hS => ?_)
  refine W.widen (k := 0) (n := 0) (Nat.le_of_ble_eq_true rfl) (Nat.le_of_ble_eq_true rfl) ?_
  subst hw
  rcases hB with ⟨hre_118, hP1, hK1, hD1⟩ | ⟨hre_119, hP1, hK1, hD1⟩
  · refine lq_top (v := 1) hre_118 ?_
    rw [ht] at hP1
    have hK1 := va_K.moved hvm.symm hK1
    obtain ⟨hP, hD⟩ := va_join (wr := [(h0, .inr (8, [.ref e0, .int (nI cl), .ref e2, .int (nI ol), .int i4, .int i5, .int i6, .int i7])), (e0, .inl (k0, 60, .inl f0)), (e2, .inl (k2, 60, .inl g0))]) (w1 := []) hP hD [] [0, 1, 2] rfl rfl (by decide) (by decide) hk1 hFc hP1 hD1
    have hK := (hK.sub (tys' := [(k0, .int), (k2, .char)]) [0, 1] rfl).app hK1
    have hP : va_P (dC, dI) vwCl [(h0, .inr (8, [.ref e0, .int (nI cl), .ref e2, .int (nI ol), .int i4, .int i5, .int i6, .int i7])), (e0, .inl (k0, 60, .inl f0)), (e2, .inl (k2, 60, .inl g0))] H := hP
    have hD : va_D A [(h0, .inr (8, [.ref e0, .int (nI cl), .ref e2, .int (nI ol), .int i4, .int i5, .int i6, .int i7])), (e0, .inl (k0, 60, .inl f0)), (e2, .inl (k2, 60, .inl g0))] := hD
    have hK : va_K (dC, dI) vwCl [(k0, .int), (k2, .char)] s := hK
    refine lv_if_eq (tgt := 13) hx hb dX8_followsThing_4 (by decide) (fun c_120 => absurd c_120 (by decide)) (fun c_120 => ?_)
    refine lv_aload_n hx hb dX8_followsThing_7 rfl (lv_at hl 0 rfl) ?_
    refine lv_iload_n hx hb dX8_followsThing_8 rfl (lv_at hl 1 rfl) ?_
    have hPc := hP.sub (ws' := [(h0, .inr (8, [.ref e0, .int (nI cl), .ref e2, .int (nI ol), .int i4, .int i5, .int i6, .int i7])), (e0, .inl (k0, 60, .inl f0)), (e2, .inl (k2, 60, .inl g0))]) [0, 1, 2] rfl
    have hDc := hD.sub (ws' := [(h0, .inr (8, [.ref e0, .int (nI cl), .ref e2, .int (nI ol), .int i4, .int i5, .int i6, .int i7])), (e0, .inl (k0, 60, .inl f0)), (e2, .inl (k2, 60, .inl g0))]) [0, 1, 2] (by decide) rfl
    have hKc := hK.sub (tys' := [(k0, .int), (k2, .char)]) [0, 1] rfl
    have hFc := va_free (wc := [(h0, .inr (8, [.ref e0, .int (nI cl), .ref e2, .int (nI ol), .int i4, .int i5, .int i6, .int i7])), (e0, .inl (k0, 60, .inl f0)), (e2, .inl (k2, 60, .inl g0))]) hD hS hA [0, 1, 2] rfl
    refine va_calli (va_runV (As := [.int p0]) (rest := []) ⟨hx, hb, hml, hown, hts⟩ (r_goesOnNumber l dC dI ad av H.size h0 e0 e2 cl ol k0 k2 f0 g0 i4 i5 i6 i7 p0 (by omega) (by omega)) (cwV 1 hts (gi_4 (List.mem_cons_of_mem _ (List.mem_append_left _ (List.mem_of_getElem? (i := 3) rfl))) (List.mem_cons_of_mem _ (List.mem_append_left _ (List.mem_of_getElem? (i := 4) rfl))) (List.mem_cons_of_mem _ (List.mem_append_left _ (List.mem_of_getElem? (i := 5) rfl))) (List.mem_cons_of_mem _ (List.mem_append_left _ (List.mem_of_getElem? (i := 2) rfl))) (fun _ hh => (List.mem_cons_of_mem _ (List.mem_append_right _ (List.mem_append_right _ (List.mem_append_left _ hh))))) gd_r_goesOnNumber) rfl rfl rfl (by decide +kernel) ⟨Nat.le_of_ble_eq_true rfl, Nat.le_of_ble_eq_true rfl⟩) ⟨pr_blind, va_recv hKc hPc (ci := 8) (q0 := 0) rfl rfl, pr_use hPc hKc hDc hFc hS hM⟩ rfl rfl hl.1 rfl (lv_room (Nat.le_of_ble_eq_true rfl)) dX8_followsThing_9 ⟨Nat.le_of_ble_eq_true rfl, Nat.le_of_ble_eq_true rfl⟩) hS (fun q _ h => hFc q h) hFc (fun r_121 u t H locs ht hvm hw hB hz1 hk1 hS => ?_)
    refine W.widen (k := 0) (n := 0) (Nat.le_of_ble_eq_true rfl) (Nat.le_of_ble_eq_true rfl) ?_
    subst hw
    rcases hB with ⟨cl_122, ol_123, j_124, j_125, j_126, j_127, f_128, g_129, hre_130, hf_131, hf_132, hP1, hK1, hD1⟩ | ⟨cl_133, ol_134, j_135, j_136, j_137, j_138, f_139, g_140, hre_141, hf_142, hf_143, hP1, hK1, hD1⟩
    · refine lq_top (v := 1) hre_130 ?_
      rw [ht] at hP1
      have hK1 := va_K.moved hvm.symm hK1
      obtain ⟨hP, hD⟩ := va_join (wr := []) (w1 := [(h0, .inr (8, [.ref e0, .int (nI cl_122), .ref e2, .int (nI ol_123), .int j_124, .int j_125, .int j_126, .int j_127])), (e0, .inl (k0, 60, .inl f_128)), (e2, .inl (k2, 60, .inl g_129))]) hP hD [0, 1, 2] [] rfl rfl (by decide) (by decide) hk1 hFc hP1 hD1
      have hK := (hK.sub (tys' := []) [] rfl).app hK1
      have hP : va_P (dC, dI) vwCl [(h0, .inr (8, [.ref e0, .int (nI cl_122), .ref e2, .int (nI ol_123), .int j_124, .int j_125, .int j_126, .int j_127])), (e0, .inl (k0, 60, .inl f_128)), (e2, .inl (k2, 60, .inl g_129))] H := hP
      have hD : va_D A [(h0, .inr (8, [.ref e0, .int (nI cl_122), .ref e2, .int (nI ol_123), .int j_124, .int j_125, .int j_126, .int j_127])), (e0, .inl (k0, 60, .inl f_128)), (e2, .inl (k2, 60, .inl g_129))] := hD
      have hK : va_K (dC, dI) vwCl [(k0, .int), (k2, .char)] s := hK
      have hP9 := hP.sub (ws' := [(h0, .inr (8, [.ref e0, .int (nI cl_122), .ref e2, .int (nI ol_123), .int j_124, .int j_125, .int j_126, .int j_127])), (e0, .inl (k0, 60, .inl f_128)), (e2, .inl (k2, 60, .inl g_129))]) [0, 1, 2] rfl
      have hD9 := hD.sub (ws' := [(h0, .inr (8, [.ref e0, .int (nI cl_122), .ref e2, .int (nI ol_123), .int j_124, .int j_125, .int j_126, .int j_127])), (e0, .inl (k0, 60, .inl f_128)), (e2, .inl (k2, 60, .inl g_129))]) [0, 1, 2] (by decide) rfl
      have hK9 := hK.sub (tys' := [(k0, .int), (k2, .char)]) [0, 1] rfl
      exact W.zret (v := 1) hx hb hr (by decide) (fun t ht hW => ⟨⟨1, 1, rfl, rfl, Or.inl ⟨cl_122, ol_123, j_124, j_125, j_126, j_127, f_128, g_129, rfl, hf_131, hf_132, by rw [ht]; exact hP9, va_K.moved hW.alike hK9, hD9⟩⟩, hS.F ht⟩) hS.2.2 dX8_followsThing_12
    · refine lq_top (v := 0) hre_141 ?_
      rw [ht] at hP1
      have hK1 := va_K.moved hvm.symm hK1
      obtain ⟨hP, hD⟩ := va_join (wr := []) (w1 := [(h0, .inr (8, [.ref e0, .int (nI cl_133), .ref e2, .int (nI ol_134), .int j_135, .int j_136, .int j_137, .int j_138])), (e0, .inl (k0, 60, .inl f_139)), (e2, .inl (k2, 60, .inl g_140))]) hP hD [0, 1, 2] [] rfl rfl (by decide) (by decide) hk1 hFc hP1 hD1
      have hK := (hK.sub (tys' := []) [] rfl).app hK1
      have hP : va_P (dC, dI) vwCl [(h0, .inr (8, [.ref e0, .int (nI cl_133), .ref e2, .int (nI ol_134), .int j_135, .int j_136, .int j_137, .int j_138])), (e0, .inl (k0, 60, .inl f_139)), (e2, .inl (k2, 60, .inl g_140))] H := hP
      have hD : va_D A [(h0, .inr (8, [.ref e0, .int (nI cl_133), .ref e2, .int (nI ol_134), .int j_135, .int j_136, .int j_137, .int j_138])), (e0, .inl (k0, 60, .inl f_139)), (e2, .inl (k2, 60, .inl g_140))] := hD
      have hK : va_K (dC, dI) vwCl [(k0, .int), (k2, .char)] s := hK
      have hP9 := hP.sub (ws' := [(h0, .inr (8, [.ref e0, .int (nI cl_133), .ref e2, .int (nI ol_134), .int j_135, .int j_136, .int j_137, .int j_138])), (e0, .inl (k0, 60, .inl f_139)), (e2, .inl (k2, 60, .inl g_140))]) [0, 1, 2] rfl
      have hD9 := hD.sub (ws' := [(h0, .inr (8, [.ref e0, .int (nI cl_133), .ref e2, .int (nI ol_134), .int j_135, .int j_136, .int j_137, .int j_138])), (e0, .inl (k0, 60, .inl f_139)), (e2, .inl (k2, 60, .inl g_140))]) [0, 1, 2] (by decide) rfl
      have hK9 := hK.sub (tys' := [(k0, .int), (k2, .char)]) [0, 1] rfl
      exact W.zret (v := 0) hx hb hr (by decide) (fun t ht hW => ⟨⟨0, 0, rfl, rfl, Or.inr (⟨cl_133, ol_134, j_135, j_136, j_137, j_138, f_139, g_140, rfl, hf_142, hf_143, by rw [ht]; exact hP9, va_K.moved hW.alike hK9, hD9⟩)⟩, hS.F ht⟩) hS.2.2 dX8_followsThing_12
  · refine lq_top (v := 0) hre_119 ?_
    rw [ht] at hP1
    have hK1 := va_K.moved hvm.symm hK1
    obtain ⟨hP, hD⟩ := va_join (wr := [(h0, .inr (8, [.ref e0, .int (nI cl), .ref e2, .int (nI ol), .int i4, .int i5, .int i6, .int i7])), (e0, .inl (k0, 60, .inl f0)), (e2, .inl (k2, 60, .inl g0))]) (w1 := []) hP hD [] [0, 1, 2] rfl rfl (by decide) (by decide) hk1 hFc hP1 hD1
    have hK := (hK.sub (tys' := [(k0, .int), (k2, .char)]) [0, 1] rfl).app hK1
    have hP : va_P (dC, dI) vwCl [(h0, .inr (8, [.ref e0, .int (nI cl), .ref e2, .int (nI ol), .int i4, .int i5, .int i6, .int i7])), (e0, .inl (k0, 60, .inl f0)), (e2, .inl (k2, 60, .inl g0))] H := hP
    have hD : va_D A [(h0, .inr (8, [.ref e0, .int (nI cl), .ref e2, .int (nI ol), .int i4, .int i5, .int i6, .int i7])), (e0, .inl (k0, 60, .inl f0)), (e2, .inl (k2, 60, .inl g0))] := hD
    have hK : va_K (dC, dI) vwCl [(k0, .int), (k2, .char)] s := hK
    refine lv_if_eq (tgt := 13) hx hb dX8_followsThing_4 (by decide) (fun c_144 => ?_) (fun c_144 => absurd c_144 (fun z => z (by decide)))
    refine lv_aload_n hx hb dX8_followsThing_13 rfl (lv_at hl 0 rfl) ?_
    refine lv_iconst (v := 0) hx hb dX8_followsThing_14 (by decide) ?_
    refine va_put (D := (dC, dI)) (ci := 8) (v := .int 0) (ty := .int) (C := RX8) (T := TX8) (N := 8) hx hb hts (fun _ hh => (List.mem_cons_of_mem _ (List.mem_append_right _ (List.mem_append_right _ (List.mem_append_right _ (List.mem_append_left _ hh)))))) tyX8 tyX8_ok nmX8 hown hK hP hD hS 0 rfl rfl 6 (by decide) (hts (.fieldLink RX8 32 "TypingPool$Reader" "digits" "I") (List.mem_cons_of_mem _ (List.mem_append_left _ (List.mem_of_getElem? (i := 6) rfl)))) (fun _ h9 => h9) rfl (tyX8_ok 6 (by decide)) rfl rfl (Nat.le_of_ble_eq_true rfl) dX8_followsThing_15 (fun H locs hP hD hS => ?_)
    have hP : va_P (dC, dI) vwCl [(h0, .inr (8, [.ref e0, .int (nI cl), .ref e2, .int (nI ol), .int i4, .int i5, .int 0, .int i7])), (e0, .inl (k0, 60, .inl f0)), (e2, .inl (k2, 60, .inl g0))] H := hP
    have hD : va_D A [(h0, .inr (8, [.ref e0, .int (nI cl), .ref e2, .int (nI ol), .int i4, .int i5, .int 0, .int i7])), (e0, .inl (k0, 60, .inl f0)), (e2, .inl (k2, 60, .inl g0))] := hD
    refine lv_iload_n hx hb dX8_followsThing_18 rfl (lv_at hl 1 rfl) ?_
    refine lv_bipush (v := 41) hx hb dX8_followsThing_19 (by decide) ?_
    refine lv_icmp_ne (tgt := 29) hx hb dX8_followsThing_21 (by decide) (fun c_145 => ?_) (fun c_145 => ?_)
    · refine lv_iload_n hx hb dX8_followsThing_29 rfl (lv_at hl 1 rfl) ?_
      have hPc := hP.sub (ws' := []) [] rfl
      have hDc := hD.sub (ws' := []) [] (by decide) rfl
      have hKc := hK.sub (tys' := []) [] rfl
      have hFc := va_free (wc := []) hD hS hA [] rfl
      refine va_calli (va_runS (As := [.int p0]) (rest := []) ⟨hx, hb, hml, hown, hts⟩ (r_binding l dC dI ad av H.size p0 ) (va_cwS 1 hts (gi_3 (List.mem_cons_of_mem _ (List.mem_append_left _ (List.mem_of_getElem? (i := 7) rfl))) (List.mem_cons_of_mem _ (List.mem_append_left _ (List.mem_of_getElem? (i := 8) rfl))) (List.mem_cons_of_mem _ (List.mem_append_left _ (List.mem_of_getElem? (i := 2) rfl))) (fun _ hh => (List.mem_cons_of_mem _ (List.mem_append_right _ (List.mem_append_right _ (List.mem_append_right _ (List.mem_append_right _ (List.mem_append_left _ hh))))))) gd_r_binding) rfl rfl rfl (by decide +kernel) ⟨Nat.le_of_ble_eq_true rfl, Nat.le_of_ble_eq_true rfl⟩) ⟨pr_blind, pr_use hPc hKc hDc hFc hS hM⟩ rfl rfl hl.1 rfl (lv_room (Nat.le_of_ble_eq_true rfl)) dX8_followsThing_30 ⟨Nat.le_of_ble_eq_true rfl, Nat.le_of_ble_eq_true rfl⟩) hS (fun q _ h => hFc q h) hFc (fun r_146 u t H locs ht hvm hw hB hz1 hk1 hS => ?_)
      refine W.widen (k := 0) (n := 0) (Nat.le_of_ble_eq_true rfl) (Nat.le_of_ble_eq_true rfl) ?_
      subst hw
      obtain ⟨r_147, hre_148, hP1, hK1, hD1⟩ := hB
      refine lq_top (v := r_147) hre_148 ?_
      rw [ht] at hP1
      have hK1 := va_K.moved hvm.symm hK1
      obtain ⟨hP, hD⟩ := va_join (wr := [(h0, .inr (8, [.ref e0, .int (nI cl), .ref e2, .int (nI ol), .int i4, .int i5, .int 0, .int i7])), (e0, .inl (k0, 60, .inl f0)), (e2, .inl (k2, 60, .inl g0))]) (w1 := []) hP hD [] [0, 1, 2] rfl rfl (by decide) (by decide) hk1 hFc hP1 hD1
      have hK := (hK.sub (tys' := [(k0, .int), (k2, .char)]) [0, 1] rfl).app hK1
      have hP : va_P (dC, dI) vwCl [(h0, .inr (8, [.ref e0, .int (nI cl), .ref e2, .int (nI ol), .int i4, .int i5, .int 0, .int i7])), (e0, .inl (k0, 60, .inl f0)), (e2, .inl (k2, 60, .inl g0))] H := hP
      have hD : va_D A [(h0, .inr (8, [.ref e0, .int (nI cl), .ref e2, .int (nI ol), .int i4, .int i5, .int 0, .int i7])), (e0, .inl (k0, 60, .inl f0)), (e2, .inl (k2, 60, .inl g0))] := hD
      have hK : va_K (dC, dI) vwCl [(k0, .int), (k2, .char)] s := hK
      refine lv_istore_n (lv' := [(2, .int r_147), (0, .ref h0), (1, .int p0)]) hx hb dX8_followsThing_33 rfl hl (by decide) rfl (fun ls hl => ?_)
      refine lv_iload_n hx hb dX8_followsThing_34 rfl (lv_at hl 0 rfl) ?_
      refine lv_if_eq (tgt := 44) hx hb dX8_followsThing_35 (by decide) (fun c_149 => ?_) (fun c_149 => ?_)
      · refine lv_iconst (v := 0) hx hb dX8_followsThing_44 (by decide) ?_
        have hP9 := hP.sub (ws' := [(h0, .inr (8, [.ref e0, .int (nI cl), .ref e2, .int (nI ol), .int i4, .int i5, .int 0, .int i7])), (e0, .inl (k0, 60, .inl f0)), (e2, .inl (k2, 60, .inl g0))]) [0, 1, 2] rfl
        have hD9 := hD.sub (ws' := [(h0, .inr (8, [.ref e0, .int (nI cl), .ref e2, .int (nI ol), .int i4, .int i5, .int 0, .int i7])), (e0, .inl (k0, 60, .inl f0)), (e2, .inl (k2, 60, .inl g0))]) [0, 1, 2] (by decide) rfl
        have hK9 := hK.sub (tys' := [(k0, .int), (k2, .char)]) [0, 1] rfl
        exact W.zret (v := 0) hx hb hr (by decide) (fun t ht hW => ⟨⟨0, 0, rfl, rfl, Or.inr (⟨cl, ol, i4, i5, 0, i7, f0, g0, rfl, (by omega), (by omega), by rw [ht]; exact hP9, va_K.moved hW.alike hK9, hD9⟩)⟩, hS.F ht⟩) hS.2.2 dX8_followsThing_45
      · refine lv_iload_n hx hb dX8_followsThing_38 rfl (lv_at hl 0 rfl) ?_
        refine lv_bipush (v := 6) hx hb dX8_followsThing_39 (by decide) ?_
        refine lv_icmp_ne (tgt := 46) hx hb dX8_followsThing_41 (by decide) (fun c_150 => ?_) (fun c_150 => ?_)
        · refine lv_iload_n hx hb dX8_followsThing_46 rfl (lv_at hl 0 rfl) ?_
          refine lv_iconst (v := 3) hx hb dX8_followsThing_47 (by decide) ?_
          refine lv_icmp_ne (tgt := 86) hx hb dX8_followsThing_48 (by decide) (fun c_151 => ?_) (fun c_151 => ?_)
          · refine lv_iload_n hx hb dX8_followsThing_86 rfl (lv_at hl 0 rfl) ?_
            refine lv_iconst (v := 3) hx hb dX8_followsThing_87 (by decide) ?_
            refine lv_icmp_ge (tgt := 108) hx hb dX8_followsThing_88 (by decide) (fun c_152 => ?_) (fun c_152 => ?_)
            · refine lv_aload_n hx hb dX8_followsThing_108 rfl (lv_at hl 1 rfl) ?_
              refine lv_iload_n hx hb dX8_followsThing_109 rfl (lv_at hl 0 rfl) ?_
              have hPc := hP.sub (ws' := [(h0, .inr (8, [.ref e0, .int (nI cl), .ref e2, .int (nI ol), .int i4, .int i5, .int 0, .int i7])), (e0, .inl (k0, 60, .inl f0)), (e2, .inl (k2, 60, .inl g0))]) [0, 1, 2] rfl
              have hDc := hD.sub (ws' := [(h0, .inr (8, [.ref e0, .int (nI cl), .ref e2, .int (nI ol), .int i4, .int i5, .int 0, .int i7])), (e0, .inl (k0, 60, .inl f0)), (e2, .inl (k2, 60, .inl g0))]) [0, 1, 2] (by decide) rfl
              have hKc := hK.sub (tys' := [(k0, .int), (k2, .char)]) [0, 1] rfl
              have hFc := va_free (wc := [(h0, .inr (8, [.ref e0, .int (nI cl), .ref e2, .int (nI ol), .int i4, .int i5, .int 0, .int i7])), (e0, .inl (k0, 60, .inl f0)), (e2, .inl (k2, 60, .inl g0))]) hD hS hA [0, 1, 2] rfl
              refine va_callv (va_runV (As := [.int r_147]) (rest := []) ⟨hx, hb, hml, hown, hts⟩ (r_close l dC dI ad av H.size h0 e0 e2 cl ol k0 k2 f0 g0 i4 i5 0 i7 r_147 (by omega) (by omega)) (cwV 1 hts (gi_4 (List.mem_cons_of_mem _ (List.mem_append_left _ (List.mem_of_getElem? (i := 9) rfl))) (List.mem_cons_of_mem _ (List.mem_append_left _ (List.mem_of_getElem? (i := 10) rfl))) (List.mem_cons_of_mem _ (List.mem_append_left _ (List.mem_of_getElem? (i := 11) rfl))) (List.mem_cons_of_mem _ (List.mem_append_left _ (List.mem_of_getElem? (i := 2) rfl))) (fun _ hh => (List.mem_cons_of_mem _ (List.mem_append_right _ (List.mem_append_right _ (List.mem_append_right _ (List.mem_append_right _ (List.mem_append_right _ (List.mem_append_left _ hh)))))))) gd_r_close) rfl rfl rfl (by decide +kernel) ⟨Nat.le_of_ble_eq_true rfl, Nat.le_of_ble_eq_true rfl⟩) ⟨pr_blind, va_recv hKc hPc (ci := 8) (q0 := 0) rfl rfl, pr_use hPc hKc hDc hFc hS hM⟩ rfl rfl hl.1 rfl (lv_room (Nat.le_of_ble_eq_true rfl)) dX8_followsThing_110 ⟨Nat.le_of_ble_eq_true rfl, Nat.le_of_ble_eq_true rfl⟩) hS (fun q _ h => hFc q h) hFc (fun u t H locs ht hvm hw hB hz1 hk1 hS => ?_)
              refine W.widen (k := 0) (n := 0) (Nat.le_of_ble_eq_true rfl) (Nat.le_of_ble_eq_true rfl) ?_
              obtain ⟨cl_154, ol_155, j_156, j_157, j_158, j_159, f_160, g_161, hf_163, hf_164, hP1, hK1, hD1⟩ := hB
              rw [ht] at hP1
              have hK1 := va_K.moved hvm.symm hK1
              obtain ⟨hP, hD⟩ := va_join (wr := []) (w1 := [(h0, .inr (8, [.ref e0, .int (nI cl_154), .ref e2, .int (nI ol_155), .int j_156, .int j_157, .int j_158, .int j_159])), (e0, .inl (k0, 60, .inl f_160)), (e2, .inl (k2, 60, .inl g_161))]) hP hD [0, 1, 2] [] rfl rfl (by decide) (by decide) hk1 hFc hP1 hD1
              have hK := (hK.sub (tys' := []) [] rfl).app hK1
              have hP : va_P (dC, dI) vwCl [(h0, .inr (8, [.ref e0, .int (nI cl_154), .ref e2, .int (nI ol_155), .int j_156, .int j_157, .int j_158, .int j_159])), (e0, .inl (k0, 60, .inl f_160)), (e2, .inl (k2, 60, .inl g_161))] H := hP
              have hD : va_D A [(h0, .inr (8, [.ref e0, .int (nI cl_154), .ref e2, .int (nI ol_155), .int j_156, .int j_157, .int j_158, .int j_159])), (e0, .inl (k0, 60, .inl f_160)), (e2, .inl (k2, 60, .inl g_161))] := hD
              have hK : va_K (dC, dI) vwCl [(k0, .int), (k2, .char)] s := hK
              refine lv_aload_n hx hb dX8_followsThing_113 rfl (lv_at hl 1 rfl) ?_
              refine lv_iload_n hx hb dX8_followsThing_114 rfl (lv_at hl 2 rfl) ?_
              have hPc := hP.sub (ws' := [(h0, .inr (8, [.ref e0, .int (nI cl_154), .ref e2, .int (nI ol_155), .int j_156, .int j_157, .int j_158, .int j_159])), (e0, .inl (k0, 60, .inl f_160)), (e2, .inl (k2, 60, .inl g_161))]) [0, 1, 2] rfl
              have hDc := hD.sub (ws' := [(h0, .inr (8, [.ref e0, .int (nI cl_154), .ref e2, .int (nI ol_155), .int j_156, .int j_157, .int j_158, .int j_159])), (e0, .inl (k0, 60, .inl f_160)), (e2, .inl (k2, 60, .inl g_161))]) [0, 1, 2] (by decide) rfl
              have hKc := hK.sub (tys' := [(k0, .int), (k2, .char)]) [0, 1] rfl
              have hFc := va_free (wc := [(h0, .inr (8, [.ref e0, .int (nI cl_154), .ref e2, .int (nI ol_155), .int j_156, .int j_157, .int j_158, .int j_159])), (e0, .inl (k0, 60, .inl f_160)), (e2, .inl (k2, 60, .inl g_161))]) hD hS hA [0, 1, 2] rfl
              refine va_callv (va_runV (As := [.int p0]) (rest := []) ⟨hx, hb, hml, hown, hts⟩ (r_keepOpen l dC dI ad av H.size h0 e0 e2 cl_154 ol_155 k0 k2 f_160 g_161 j_156 j_157 j_158 j_159 p0 hf_163 hf_164) (cwV 1 hts (gi_4 (List.mem_cons_of_mem _ (List.mem_append_left _ (List.mem_of_getElem? (i := 12) rfl))) (List.mem_cons_of_mem _ (List.mem_append_left _ (List.mem_of_getElem? (i := 13) rfl))) (List.mem_cons_of_mem _ (List.mem_append_left _ (List.mem_of_getElem? (i := 14) rfl))) (List.mem_cons_of_mem _ (List.mem_append_left _ (List.mem_of_getElem? (i := 2) rfl))) (fun _ hh => (List.mem_cons_of_mem _ (List.mem_append_right _ (List.mem_append_right _ (List.mem_append_right _ (List.mem_append_right _ (List.mem_append_right _ (List.mem_append_right _ (List.mem_append_left _ hh))))))))) gd_r_keepOpen) rfl rfl rfl (by decide +kernel) ⟨Nat.le_of_ble_eq_true rfl, Nat.le_of_ble_eq_true rfl⟩) ⟨pr_blind, va_recv hKc hPc (ci := 8) (q0 := 0) rfl rfl, pr_use hPc hKc hDc hFc hS hM⟩ rfl rfl hl.1 rfl (lv_room (Nat.le_of_ble_eq_true rfl)) dX8_followsThing_115 ⟨Nat.le_of_ble_eq_true rfl, Nat.le_of_ble_eq_true rfl⟩) hS (fun q _ h => hFc q h) hFc (fun u t H locs ht hvm hw hB hz1 hk1 hS => ?_)
              refine W.widen (k := 0) (n := 0) (Nat.le_of_ble_eq_true rfl) (Nat.le_of_ble_eq_true rfl) ?_
              obtain ⟨ol_166, g_167, hf_169, hP1, hK1, hD1⟩ := hB
              rw [ht] at hP1
              have hK1 := va_K.moved hvm.symm hK1
              obtain ⟨hP, hD⟩ := va_join (wr := []) (w1 := [(h0, .inr (8, [.ref e0, .int (nI cl_154), .ref e2, .int (nI ol_166), .int j_156, .int j_157, .int j_158, .int j_159])), (e0, .inl (k0, 60, .inl f_160)), (e2, .inl (k2, 60, .inl g_167))]) hP hD [0, 1, 2] [] rfl rfl (by decide) (by decide) hk1 hFc hP1 hD1
              have hK := (hK.sub (tys' := []) [] rfl).app hK1
              have hP : va_P (dC, dI) vwCl [(h0, .inr (8, [.ref e0, .int (nI cl_154), .ref e2, .int (nI ol_166), .int j_156, .int j_157, .int j_158, .int j_159])), (e0, .inl (k0, 60, .inl f_160)), (e2, .inl (k2, 60, .inl g_167))] H := hP
              have hD : va_D A [(h0, .inr (8, [.ref e0, .int (nI cl_154), .ref e2, .int (nI ol_166), .int j_156, .int j_157, .int j_158, .int j_159])), (e0, .inl (k0, 60, .inl f_160)), (e2, .inl (k2, 60, .inl g_167))] := hD
              have hK : va_K (dC, dI) vwCl [(k0, .int), (k2, .char)] s := hK
              refine lv_aload_n hx hb dX8_followsThing_118 rfl (lv_at hl 1 rfl) ?_
              refine lv_iconst (v := 1) hx hb dX8_followsThing_119 (by decide) ?_
              refine va_put (D := (dC, dI)) (ci := 8) (v := .int 1) (ty := .boolean) (C := RX8) (T := TX8) (N := 8) hx hb hts (fun _ hh => (List.mem_cons_of_mem _ (List.mem_append_right _ (List.mem_append_right _ (List.mem_append_right _ (List.mem_append_left _ hh)))))) tyX8 tyX8_ok nmX8 hown hK hP hD hS 0 rfl rfl 7 (by decide) (hts (.fieldLink RX8 35 "TypingPool$Reader" "wantsThing" "Z") (List.mem_cons_of_mem _ (List.mem_append_left _ (List.mem_of_getElem? (i := 15) rfl)))) (fun _ h9 => h9) rfl (tyX8_ok 7 (by decide)) rfl rfl (Nat.le_of_ble_eq_true rfl) dX8_followsThing_120 (fun H locs hP hD hS => ?_)
              have hP : va_P (dC, dI) vwCl [(h0, .inr (8, [.ref e0, .int (nI cl_154), .ref e2, .int (nI ol_166), .int j_156, .int j_157, .int j_158, .int 1])), (e0, .inl (k0, 60, .inl f_160)), (e2, .inl (k2, 60, .inl g_167))] H := hP
              have hD : va_D A [(h0, .inr (8, [.ref e0, .int (nI cl_154), .ref e2, .int (nI ol_166), .int j_156, .int j_157, .int j_158, .int 1])), (e0, .inl (k0, 60, .inl f_160)), (e2, .inl (k2, 60, .inl g_167))] := hD
              refine lv_iconst (v := 1) hx hb dX8_followsThing_123 (by decide) ?_
              have hP9 := hP.sub (ws' := [(h0, .inr (8, [.ref e0, .int (nI cl_154), .ref e2, .int (nI ol_166), .int j_156, .int j_157, .int j_158, .int 1])), (e0, .inl (k0, 60, .inl f_160)), (e2, .inl (k2, 60, .inl g_167))]) [0, 1, 2] rfl
              have hD9 := hD.sub (ws' := [(h0, .inr (8, [.ref e0, .int (nI cl_154), .ref e2, .int (nI ol_166), .int j_156, .int j_157, .int j_158, .int 1])), (e0, .inl (k0, 60, .inl f_160)), (e2, .inl (k2, 60, .inl g_167))]) [0, 1, 2] (by decide) rfl
              have hK9 := hK.sub (tys' := [(k0, .int), (k2, .char)]) [0, 1] rfl
              exact W.zret (v := 1) hx hb hr (by decide) (fun t ht hW => ⟨⟨1, 1, rfl, rfl, Or.inl ⟨cl_154, ol_166, j_156, j_157, j_158, 1, f_160, g_167, rfl, hf_163, hf_169, by rw [ht]; exact hP9, va_K.moved hW.alike hK9, hD9⟩⟩, hS.F ht⟩) hS.2.2 dX8_followsThing_124
            · refine lv_aload_n hx hb dX8_followsThing_91 rfl (lv_at hl 1 rfl) ?_
              refine lv_dup hx hb dX8_followsThing_92 rfl ?_
              refine va_get (D := (dC, dI)) (ci := 8) (v := .int i5) (C := RX8) (T := TX8) (N := 8) hx hb hts (fun _ hh => (List.mem_cons_of_mem _ (List.mem_append_right _ (List.mem_append_right _ (List.mem_append_right _ (List.mem_append_left _ hh)))))) hown hK hP 0 rfl rfl 5 (by decide) (hts (.fieldLink RX8 29 "TypingPool$Reader" "compared" "I") (List.mem_cons_of_mem _ (List.mem_append_left _ (List.mem_of_getElem? (i := 16) rfl)))) (fun _ h9 => h9) rfl dX8_followsThing_93 ?_
              refine lv_iconst (v := 1) hx hb dX8_followsThing_96 (by decide) ?_
              refine lv_aload_n hx hb dX8_followsThing_97 rfl (lv_at hl 1 rfl) ?_
              refine va_get (D := (dC, dI)) (ci := 8) (v := .int i4) (C := RX8) (T := TX8) (N := 8) hx hb hts (fun _ hh => (List.mem_cons_of_mem _ (List.mem_append_right _ (List.mem_append_right _ (List.mem_append_right _ (List.mem_append_left _ hh)))))) hown hK hP 0 rfl rfl 4 (by decide) (hts (.fieldLink RX8 26 "TypingPool$Reader" "depth" "I") (List.mem_cons_of_mem _ (List.mem_append_left _ (List.mem_of_getElem? (i := 17) rfl)))) (fun _ h9 => h9) rfl dX8_followsThing_98 ?_
              refine lv_ishl hx hb dX8_followsThing_101 ?_
              refine lv_topi (fun x_170 ex_170 => ?_)
              refine lv_iconst (v := (-1)) hx hb dX8_followsThing_102 (by decide) ?_
              refine lv_ixor hx hb dX8_followsThing_103 ?_
              refine lv_topi (fun x_171 ex_171 => ?_)
              refine lv_iand hx hb dX8_followsThing_104 ?_
              refine lv_topi (fun x_172 ex_172 => ?_)
              refine va_put (D := (dC, dI)) (ci := 8) (v := .int x_172) (ty := .int) (C := RX8) (T := TX8) (N := 8) hx hb hts (fun _ hh => (List.mem_cons_of_mem _ (List.mem_append_right _ (List.mem_append_right _ (List.mem_append_right _ (List.mem_append_left _ hh)))))) tyX8 tyX8_ok nmX8 hown hK hP hD hS 0 rfl rfl 5 (by decide) (hts (.fieldLink RX8 29 "TypingPool$Reader" "compared" "I") (List.mem_cons_of_mem _ (List.mem_append_left _ (List.mem_of_getElem? (i := 16) rfl)))) (fun _ h9 => h9) rfl (tyX8_ok 5 (by decide)) rfl rfl (Nat.le_of_ble_eq_true rfl) dX8_followsThing_105 (fun H locs hP hD hS => ?_)
              have hP : va_P (dC, dI) vwCl [(h0, .inr (8, [.ref e0, .int (nI cl), .ref e2, .int (nI ol), .int i4, .int x_172, .int 0, .int i7])), (e0, .inl (k0, 60, .inl f0)), (e2, .inl (k2, 60, .inl g0))] H := hP
              have hD : va_D A [(h0, .inr (8, [.ref e0, .int (nI cl), .ref e2, .int (nI ol), .int i4, .int x_172, .int 0, .int i7])), (e0, .inl (k0, 60, .inl f0)), (e2, .inl (k2, 60, .inl g0))] := hD
              refine lv_aload_n hx hb dX8_followsThing_108 rfl (lv_at hl 1 rfl) ?_
              refine lv_iload_n hx hb dX8_followsThing_109 rfl (lv_at hl 0 rfl) ?_
              have hPc := hP.sub (ws' := [(h0, .inr (8, [.ref e0, .int (nI cl), .ref e2, .int (nI ol), .int i4, .int x_172, .int 0, .int i7])), (e0, .inl (k0, 60, .inl f0)), (e2, .inl (k2, 60, .inl g0))]) [0, 1, 2] rfl
              have hDc := hD.sub (ws' := [(h0, .inr (8, [.ref e0, .int (nI cl), .ref e2, .int (nI ol), .int i4, .int x_172, .int 0, .int i7])), (e0, .inl (k0, 60, .inl f0)), (e2, .inl (k2, 60, .inl g0))]) [0, 1, 2] (by decide) rfl
              have hKc := hK.sub (tys' := [(k0, .int), (k2, .char)]) [0, 1] rfl
              have hFc := va_free (wc := [(h0, .inr (8, [.ref e0, .int (nI cl), .ref e2, .int (nI ol), .int i4, .int x_172, .int 0, .int i7])), (e0, .inl (k0, 60, .inl f0)), (e2, .inl (k2, 60, .inl g0))]) hD hS hA [0, 1, 2] rfl
              refine va_callv (va_runV (As := [.int r_147]) (rest := []) ⟨hx, hb, hml, hown, hts⟩ (r_close l dC dI ad av H.size h0 e0 e2 cl ol k0 k2 f0 g0 i4 x_172 0 i7 r_147 (by omega) (by omega)) (cwV 1 hts (gi_4 (List.mem_cons_of_mem _ (List.mem_append_left _ (List.mem_of_getElem? (i := 9) rfl))) (List.mem_cons_of_mem _ (List.mem_append_left _ (List.mem_of_getElem? (i := 10) rfl))) (List.mem_cons_of_mem _ (List.mem_append_left _ (List.mem_of_getElem? (i := 11) rfl))) (List.mem_cons_of_mem _ (List.mem_append_left _ (List.mem_of_getElem? (i := 2) rfl))) (fun _ hh => (List.mem_cons_of_mem _ (List.mem_append_right _ (List.mem_append_right _ (List.mem_append_right _ (List.mem_append_right _ (List.mem_append_right _ (List.mem_append_left _ hh)))))))) gd_r_close) rfl rfl rfl (by decide +kernel) ⟨Nat.le_of_ble_eq_true rfl, Nat.le_of_ble_eq_true rfl⟩) ⟨pr_blind, va_recv hKc hPc (ci := 8) (q0 := 0) rfl rfl, pr_use hPc hKc hDc hFc hS hM⟩ rfl rfl hl.1 rfl (lv_room (Nat.le_of_ble_eq_true rfl)) dX8_followsThing_110 ⟨Nat.le_of_ble_eq_true rfl, Nat.le_of_ble_eq_true rfl⟩) hS (fun q _ h => hFc q h) hFc (fun u t H locs ht hvm hw hB hz1 hk1 hS => ?_)
              refine W.widen (k := 0) (n := 0) (Nat.le_of_ble_eq_true rfl) (Nat.le_of_ble_eq_true rfl) ?_
              obtain ⟨cl_174, ol_175, j_176, j_177, j_178, j_179, f_180, g_181, hf_183, hf_184, hP1, hK1, hD1⟩ := hB
              rw [ht] at hP1
              have hK1 := va_K.moved hvm.symm hK1
              obtain ⟨hP, hD⟩ := va_join (wr := []) (w1 := [(h0, .inr (8, [.ref e0, .int (nI cl_174), .ref e2, .int (nI ol_175), .int j_176, .int j_177, .int j_178, .int j_179])), (e0, .inl (k0, 60, .inl f_180)), (e2, .inl (k2, 60, .inl g_181))]) hP hD [0, 1, 2] [] rfl rfl (by decide) (by decide) hk1 hFc hP1 hD1
              have hK := (hK.sub (tys' := []) [] rfl).app hK1
              have hP : va_P (dC, dI) vwCl [(h0, .inr (8, [.ref e0, .int (nI cl_174), .ref e2, .int (nI ol_175), .int j_176, .int j_177, .int j_178, .int j_179])), (e0, .inl (k0, 60, .inl f_180)), (e2, .inl (k2, 60, .inl g_181))] H := hP
              have hD : va_D A [(h0, .inr (8, [.ref e0, .int (nI cl_174), .ref e2, .int (nI ol_175), .int j_176, .int j_177, .int j_178, .int j_179])), (e0, .inl (k0, 60, .inl f_180)), (e2, .inl (k2, 60, .inl g_181))] := hD
              have hK : va_K (dC, dI) vwCl [(k0, .int), (k2, .char)] s := hK
              refine lv_aload_n hx hb dX8_followsThing_113 rfl (lv_at hl 1 rfl) ?_
              refine lv_iload_n hx hb dX8_followsThing_114 rfl (lv_at hl 2 rfl) ?_
              have hPc := hP.sub (ws' := [(h0, .inr (8, [.ref e0, .int (nI cl_174), .ref e2, .int (nI ol_175), .int j_176, .int j_177, .int j_178, .int j_179])), (e0, .inl (k0, 60, .inl f_180)), (e2, .inl (k2, 60, .inl g_181))]) [0, 1, 2] rfl
              have hDc := hD.sub (ws' := [(h0, .inr (8, [.ref e0, .int (nI cl_174), .ref e2, .int (nI ol_175), .int j_176, .int j_177, .int j_178, .int j_179])), (e0, .inl (k0, 60, .inl f_180)), (e2, .inl (k2, 60, .inl g_181))]) [0, 1, 2] (by decide) rfl
              have hKc := hK.sub (tys' := [(k0, .int), (k2, .char)]) [0, 1] rfl
              have hFc := va_free (wc := [(h0, .inr (8, [.ref e0, .int (nI cl_174), .ref e2, .int (nI ol_175), .int j_176, .int j_177, .int j_178, .int j_179])), (e0, .inl (k0, 60, .inl f_180)), (e2, .inl (k2, 60, .inl g_181))]) hD hS hA [0, 1, 2] rfl
              refine va_callv (va_runV (As := [.int p0]) (rest := []) ⟨hx, hb, hml, hown, hts⟩ (r_keepOpen l dC dI ad av H.size h0 e0 e2 cl_174 ol_175 k0 k2 f_180 g_181 j_176 j_177 j_178 j_179 p0 hf_183 hf_184) (cwV 1 hts (gi_4 (List.mem_cons_of_mem _ (List.mem_append_left _ (List.mem_of_getElem? (i := 12) rfl))) (List.mem_cons_of_mem _ (List.mem_append_left _ (List.mem_of_getElem? (i := 13) rfl))) (List.mem_cons_of_mem _ (List.mem_append_left _ (List.mem_of_getElem? (i := 14) rfl))) (List.mem_cons_of_mem _ (List.mem_append_left _ (List.mem_of_getElem? (i := 2) rfl))) (fun _ hh => (List.mem_cons_of_mem _ (List.mem_append_right _ (List.mem_append_right _ (List.mem_append_right _ (List.mem_append_right _ (List.mem_append_right _ (List.mem_append_right _ (List.mem_append_left _ hh))))))))) gd_r_keepOpen) rfl rfl rfl (by decide +kernel) ⟨Nat.le_of_ble_eq_true rfl, Nat.le_of_ble_eq_true rfl⟩) ⟨pr_blind, va_recv hKc hPc (ci := 8) (q0 := 0) rfl rfl, pr_use hPc hKc hDc hFc hS hM⟩ rfl rfl hl.1 rfl (lv_room (Nat.le_of_ble_eq_true rfl)) dX8_followsThing_115 ⟨Nat.le_of_ble_eq_true rfl, Nat.le_of_ble_eq_true rfl⟩) hS (fun q _ h => hFc q h) hFc (fun u t H locs ht hvm hw hB hz1 hk1 hS => ?_)
              refine W.widen (k := 0) (n := 0) (Nat.le_of_ble_eq_true rfl) (Nat.le_of_ble_eq_true rfl) ?_
              obtain ⟨ol_186, g_187, hf_189, hP1, hK1, hD1⟩ := hB
              rw [ht] at hP1
              have hK1 := va_K.moved hvm.symm hK1
              obtain ⟨hP, hD⟩ := va_join (wr := []) (w1 := [(h0, .inr (8, [.ref e0, .int (nI cl_174), .ref e2, .int (nI ol_186), .int j_176, .int j_177, .int j_178, .int j_179])), (e0, .inl (k0, 60, .inl f_180)), (e2, .inl (k2, 60, .inl g_187))]) hP hD [0, 1, 2] [] rfl rfl (by decide) (by decide) hk1 hFc hP1 hD1
              have hK := (hK.sub (tys' := []) [] rfl).app hK1
              have hP : va_P (dC, dI) vwCl [(h0, .inr (8, [.ref e0, .int (nI cl_174), .ref e2, .int (nI ol_186), .int j_176, .int j_177, .int j_178, .int j_179])), (e0, .inl (k0, 60, .inl f_180)), (e2, .inl (k2, 60, .inl g_187))] H := hP
              have hD : va_D A [(h0, .inr (8, [.ref e0, .int (nI cl_174), .ref e2, .int (nI ol_186), .int j_176, .int j_177, .int j_178, .int j_179])), (e0, .inl (k0, 60, .inl f_180)), (e2, .inl (k2, 60, .inl g_187))] := hD
              have hK : va_K (dC, dI) vwCl [(k0, .int), (k2, .char)] s := hK
              refine lv_aload_n hx hb dX8_followsThing_118 rfl (lv_at hl 1 rfl) ?_
              refine lv_iconst (v := 1) hx hb dX8_followsThing_119 (by decide) ?_
              refine va_put (D := (dC, dI)) (ci := 8) (v := .int 1) (ty := .boolean) (C := RX8) (T := TX8) (N := 8) hx hb hts (fun _ hh => (List.mem_cons_of_mem _ (List.mem_append_right _ (List.mem_append_right _ (List.mem_append_right _ (List.mem_append_left _ hh)))))) tyX8 tyX8_ok nmX8 hown hK hP hD hS 0 rfl rfl 7 (by decide) (hts (.fieldLink RX8 35 "TypingPool$Reader" "wantsThing" "Z") (List.mem_cons_of_mem _ (List.mem_append_left _ (List.mem_of_getElem? (i := 15) rfl)))) (fun _ h9 => h9) rfl (tyX8_ok 7 (by decide)) rfl rfl (Nat.le_of_ble_eq_true rfl) dX8_followsThing_120 (fun H locs hP hD hS => ?_)
              have hP : va_P (dC, dI) vwCl [(h0, .inr (8, [.ref e0, .int (nI cl_174), .ref e2, .int (nI ol_186), .int j_176, .int j_177, .int j_178, .int 1])), (e0, .inl (k0, 60, .inl f_180)), (e2, .inl (k2, 60, .inl g_187))] H := hP
              have hD : va_D A [(h0, .inr (8, [.ref e0, .int (nI cl_174), .ref e2, .int (nI ol_186), .int j_176, .int j_177, .int j_178, .int 1])), (e0, .inl (k0, 60, .inl f_180)), (e2, .inl (k2, 60, .inl g_187))] := hD
              refine lv_iconst (v := 1) hx hb dX8_followsThing_123 (by decide) ?_
              have hP9 := hP.sub (ws' := [(h0, .inr (8, [.ref e0, .int (nI cl_174), .ref e2, .int (nI ol_186), .int j_176, .int j_177, .int j_178, .int 1])), (e0, .inl (k0, 60, .inl f_180)), (e2, .inl (k2, 60, .inl g_187))]) [0, 1, 2] rfl
              have hD9 := hD.sub (ws' := [(h0, .inr (8, [.ref e0, .int (nI cl_174), .ref e2, .int (nI ol_186), .int j_176, .int j_177, .int j_178, .int 1])), (e0, .inl (k0, 60, .inl f_180)), (e2, .inl (k2, 60, .inl g_187))]) [0, 1, 2] (by decide) rfl
              have hK9 := hK.sub (tys' := [(k0, .int), (k2, .char)]) [0, 1] rfl
              exact W.zret (v := 1) hx hb hr (by decide) (fun t ht hW => ⟨⟨1, 1, rfl, rfl, Or.inl ⟨cl_174, ol_186, j_176, j_177, j_178, 1, f_180, g_187, rfl, hf_183, hf_189, by rw [ht]; exact hP9, va_K.moved hW.alike hK9, hD9⟩⟩, hS.F ht⟩) hS.2.2 dX8_followsThing_124
          · refine lv_aload_n hx hb dX8_followsThing_51 rfl (lv_at hl 1 rfl) ?_
            refine va_get (D := (dC, dI)) (ci := 8) (v := .int i5) (C := RX8) (T := TX8) (N := 8) hx hb hts (fun _ hh => (List.mem_cons_of_mem _ (List.mem_append_right _ (List.mem_append_right _ (List.mem_append_right _ (List.mem_append_left _ hh)))))) hown hK hP 0 rfl rfl 5 (by decide) (hts (.fieldLink RX8 29 "TypingPool$Reader" "compared" "I") (List.mem_cons_of_mem _ (List.mem_append_left _ (List.mem_of_getElem? (i := 16) rfl)))) (fun _ h9 => h9) rfl dX8_followsThing_52 ?_
            refine lv_aload_n hx hb dX8_followsThing_55 rfl (lv_at hl 1 rfl) ?_
            refine va_get (D := (dC, dI)) (ci := 8) (v := .int i4) (C := RX8) (T := TX8) (N := 8) hx hb hts (fun _ hh => (List.mem_cons_of_mem _ (List.mem_append_right _ (List.mem_append_right _ (List.mem_append_right _ (List.mem_append_left _ hh)))))) hown hK hP 0 rfl rfl 4 (by decide) (hts (.fieldLink RX8 26 "TypingPool$Reader" "depth" "I") (List.mem_cons_of_mem _ (List.mem_append_left _ (List.mem_of_getElem? (i := 17) rfl)))) (fun _ h9 => h9) rfl dX8_followsThing_56 ?_
            refine lv_ishr hx hb dX8_followsThing_59 ?_
            refine lv_topi (fun x_190 ex_190 => ?_)
            refine lv_iconst (v := 1) hx hb dX8_followsThing_60 (by decide) ?_
            refine lv_iand hx hb dX8_followsThing_61 ?_
            refine lv_topi (fun x_191 ex_191 => ?_)
            refine lv_iconst (v := 1) hx hb dX8_followsThing_62 (by decide) ?_
            refine lv_icmp_ne (tgt := 68) hx hb dX8_followsThing_63 (by decide) (fun c_192 => ?_) (fun c_192 => ?_)
            · refine lv_aload_n hx hb dX8_followsThing_68 rfl (lv_at hl 1 rfl) ?_
              refine lv_dup hx hb dX8_followsThing_69 rfl ?_
              refine va_get (D := (dC, dI)) (ci := 8) (v := .int i5) (C := RX8) (T := TX8) (N := 8) hx hb hts (fun _ hh => (List.mem_cons_of_mem _ (List.mem_append_right _ (List.mem_append_right _ (List.mem_append_right _ (List.mem_append_left _ hh)))))) hown hK hP 0 rfl rfl 5 (by decide) (hts (.fieldLink RX8 29 "TypingPool$Reader" "compared" "I") (List.mem_cons_of_mem _ (List.mem_append_left _ (List.mem_of_getElem? (i := 16) rfl)))) (fun _ h9 => h9) rfl dX8_followsThing_70 ?_
              refine lv_iconst (v := 1) hx hb dX8_followsThing_73 (by decide) ?_
              refine lv_aload_n hx hb dX8_followsThing_74 rfl (lv_at hl 1 rfl) ?_
              refine va_get (D := (dC, dI)) (ci := 8) (v := .int i4) (C := RX8) (T := TX8) (N := 8) hx hb hts (fun _ hh => (List.mem_cons_of_mem _ (List.mem_append_right _ (List.mem_append_right _ (List.mem_append_right _ (List.mem_append_left _ hh)))))) hown hK hP 0 rfl rfl 4 (by decide) (hts (.fieldLink RX8 26 "TypingPool$Reader" "depth" "I") (List.mem_cons_of_mem _ (List.mem_append_left _ (List.mem_of_getElem? (i := 17) rfl)))) (fun _ h9 => h9) rfl dX8_followsThing_75 ?_
              refine lv_ishl hx hb dX8_followsThing_78 ?_
              refine lv_topi (fun x_193 ex_193 => ?_)
              refine lv_ior hx hb dX8_followsThing_79 ?_
              refine lv_topi (fun x_194 ex_194 => ?_)
              refine va_put (D := (dC, dI)) (ci := 8) (v := .int x_194) (ty := .int) (C := RX8) (T := TX8) (N := 8) hx hb hts (fun _ hh => (List.mem_cons_of_mem _ (List.mem_append_right _ (List.mem_append_right _ (List.mem_append_right _ (List.mem_append_left _ hh)))))) tyX8 tyX8_ok nmX8 hown hK hP hD hS 0 rfl rfl 5 (by decide) (hts (.fieldLink RX8 29 "TypingPool$Reader" "compared" "I") (List.mem_cons_of_mem _ (List.mem_append_left _ (List.mem_of_getElem? (i := 16) rfl)))) (fun _ h9 => h9) rfl (tyX8_ok 5 (by decide)) rfl rfl (Nat.le_of_ble_eq_true rfl) dX8_followsThing_80 (fun H locs hP hD hS => ?_)
              have hP : va_P (dC, dI) vwCl [(h0, .inr (8, [.ref e0, .int (nI cl), .ref e2, .int (nI ol), .int i4, .int x_194, .int 0, .int i7])), (e0, .inl (k0, 60, .inl f0)), (e2, .inl (k2, 60, .inl g0))] H := hP
              have hD : va_D A [(h0, .inr (8, [.ref e0, .int (nI cl), .ref e2, .int (nI ol), .int i4, .int x_194, .int 0, .int i7])), (e0, .inl (k0, 60, .inl f0)), (e2, .inl (k2, 60, .inl g0))] := hD
              refine lv_goto (tgt := 108) hx hb dX8_followsThing_83 (by decide) ?_
              refine lv_aload_n hx hb dX8_followsThing_108 rfl (lv_at hl 1 rfl) ?_
              refine lv_iload_n hx hb dX8_followsThing_109 rfl (lv_at hl 0 rfl) ?_
              have hPc := hP.sub (ws' := [(h0, .inr (8, [.ref e0, .int (nI cl), .ref e2, .int (nI ol), .int i4, .int x_194, .int 0, .int i7])), (e0, .inl (k0, 60, .inl f0)), (e2, .inl (k2, 60, .inl g0))]) [0, 1, 2] rfl
              have hDc := hD.sub (ws' := [(h0, .inr (8, [.ref e0, .int (nI cl), .ref e2, .int (nI ol), .int i4, .int x_194, .int 0, .int i7])), (e0, .inl (k0, 60, .inl f0)), (e2, .inl (k2, 60, .inl g0))]) [0, 1, 2] (by decide) rfl
              have hKc := hK.sub (tys' := [(k0, .int), (k2, .char)]) [0, 1] rfl
              have hFc := va_free (wc := [(h0, .inr (8, [.ref e0, .int (nI cl), .ref e2, .int (nI ol), .int i4, .int x_194, .int 0, .int i7])), (e0, .inl (k0, 60, .inl f0)), (e2, .inl (k2, 60, .inl g0))]) hD hS hA [0, 1, 2] rfl
              refine va_callv (va_runV (As := [.int r_147]) (rest := []) ⟨hx, hb, hml, hown, hts⟩ (r_close l dC dI ad av H.size h0 e0 e2 cl ol k0 k2 f0 g0 i4 x_194 0 i7 r_147 (by omega) (by omega)) (cwV 1 hts (gi_4 (List.mem_cons_of_mem _ (List.mem_append_left _ (List.mem_of_getElem? (i := 9) rfl))) (List.mem_cons_of_mem _ (List.mem_append_left _ (List.mem_of_getElem? (i := 10) rfl))) (List.mem_cons_of_mem _ (List.mem_append_left _ (List.mem_of_getElem? (i := 11) rfl))) (List.mem_cons_of_mem _ (List.mem_append_left _ (List.mem_of_getElem? (i := 2) rfl))) (fun _ hh => (List.mem_cons_of_mem _ (List.mem_append_right _ (List.mem_append_right _ (List.mem_append_right _ (List.mem_append_right _ (List.mem_append_right _ (List.mem_append_left _ hh)))))))) gd_r_close) rfl rfl rfl (by decide +kernel) ⟨Nat.le_of_ble_eq_true rfl, Nat.le_of_ble_eq_true rfl⟩) ⟨pr_blind, va_recv hKc hPc (ci := 8) (q0 := 0) rfl rfl, pr_use hPc hKc hDc hFc hS hM⟩ rfl rfl hl.1 rfl (lv_room (Nat.le_of_ble_eq_true rfl)) dX8_followsThing_110 ⟨Nat.le_of_ble_eq_true rfl, Nat.le_of_ble_eq_true rfl⟩) hS (fun q _ h => hFc q h) hFc (fun u t H locs ht hvm hw hB hz1 hk1 hS => ?_)
              refine W.widen (k := 0) (n := 0) (Nat.le_of_ble_eq_true rfl) (Nat.le_of_ble_eq_true rfl) ?_
              obtain ⟨cl_196, ol_197, j_198, j_199, j_200, j_201, f_202, g_203, hf_205, hf_206, hP1, hK1, hD1⟩ := hB
              rw [ht] at hP1
              have hK1 := va_K.moved hvm.symm hK1
              obtain ⟨hP, hD⟩ := va_join (wr := []) (w1 := [(h0, .inr (8, [.ref e0, .int (nI cl_196), .ref e2, .int (nI ol_197), .int j_198, .int j_199, .int j_200, .int j_201])), (e0, .inl (k0, 60, .inl f_202)), (e2, .inl (k2, 60, .inl g_203))]) hP hD [0, 1, 2] [] rfl rfl (by decide) (by decide) hk1 hFc hP1 hD1
              have hK := (hK.sub (tys' := []) [] rfl).app hK1
              have hP : va_P (dC, dI) vwCl [(h0, .inr (8, [.ref e0, .int (nI cl_196), .ref e2, .int (nI ol_197), .int j_198, .int j_199, .int j_200, .int j_201])), (e0, .inl (k0, 60, .inl f_202)), (e2, .inl (k2, 60, .inl g_203))] H := hP
              have hD : va_D A [(h0, .inr (8, [.ref e0, .int (nI cl_196), .ref e2, .int (nI ol_197), .int j_198, .int j_199, .int j_200, .int j_201])), (e0, .inl (k0, 60, .inl f_202)), (e2, .inl (k2, 60, .inl g_203))] := hD
              have hK : va_K (dC, dI) vwCl [(k0, .int), (k2, .char)] s := hK
              refine lv_aload_n hx hb dX8_followsThing_113 rfl (lv_at hl 1 rfl) ?_
              refine lv_iload_n hx hb dX8_followsThing_114 rfl (lv_at hl 2 rfl) ?_
              have hPc := hP.sub (ws' := [(h0, .inr (8, [.ref e0, .int (nI cl_196), .ref e2, .int (nI ol_197), .int j_198, .int j_199, .int j_200, .int j_201])), (e0, .inl (k0, 60, .inl f_202)), (e2, .inl (k2, 60, .inl g_203))]) [0, 1, 2] rfl
              have hDc := hD.sub (ws' := [(h0, .inr (8, [.ref e0, .int (nI cl_196), .ref e2, .int (nI ol_197), .int j_198, .int j_199, .int j_200, .int j_201])), (e0, .inl (k0, 60, .inl f_202)), (e2, .inl (k2, 60, .inl g_203))]) [0, 1, 2] (by decide) rfl
              have hKc := hK.sub (tys' := [(k0, .int), (k2, .char)]) [0, 1] rfl
              have hFc := va_free (wc := [(h0, .inr (8, [.ref e0, .int (nI cl_196), .ref e2, .int (nI ol_197), .int j_198, .int j_199, .int j_200, .int j_201])), (e0, .inl (k0, 60, .inl f_202)), (e2, .inl (k2, 60, .inl g_203))]) hD hS hA [0, 1, 2] rfl
              refine va_callv (va_runV (As := [.int p0]) (rest := []) ⟨hx, hb, hml, hown, hts⟩ (r_keepOpen l dC dI ad av H.size h0 e0 e2 cl_196 ol_197 k0 k2 f_202 g_203 j_198 j_199 j_200 j_201 p0 hf_205 hf_206) (cwV 1 hts (gi_4 (List.mem_cons_of_mem _ (List.mem_append_left _ (List.mem_of_getElem? (i := 12) rfl))) (List.mem_cons_of_mem _ (List.mem_append_left _ (List.mem_of_getElem? (i := 13) rfl))) (List.mem_cons_of_mem _ (List.mem_append_left _ (List.mem_of_getElem? (i := 14) rfl))) (List.mem_cons_of_mem _ (List.mem_append_left _ (List.mem_of_getElem? (i := 2) rfl))) (fun _ hh => (List.mem_cons_of_mem _ (List.mem_append_right _ (List.mem_append_right _ (List.mem_append_right _ (List.mem_append_right _ (List.mem_append_right _ (List.mem_append_right _ (List.mem_append_left _ hh))))))))) gd_r_keepOpen) rfl rfl rfl (by decide +kernel) ⟨Nat.le_of_ble_eq_true rfl, Nat.le_of_ble_eq_true rfl⟩) ⟨pr_blind, va_recv hKc hPc (ci := 8) (q0 := 0) rfl rfl, pr_use hPc hKc hDc hFc hS hM⟩ rfl rfl hl.1 rfl (lv_room (Nat.le_of_ble_eq_true rfl)) dX8_followsThing_115 ⟨Nat.le_of_ble_eq_true rfl, Nat.le_of_ble_eq_true rfl⟩) hS (fun q _ h => hFc q h) hFc (fun u t H locs ht hvm hw hB hz1 hk1 hS => ?_)
              refine W.widen (k := 0) (n := 0) (Nat.le_of_ble_eq_true rfl) (Nat.le_of_ble_eq_true rfl) ?_
              obtain ⟨ol_208, g_209, hf_211, hP1, hK1, hD1⟩ := hB
              rw [ht] at hP1
              have hK1 := va_K.moved hvm.symm hK1
              obtain ⟨hP, hD⟩ := va_join (wr := []) (w1 := [(h0, .inr (8, [.ref e0, .int (nI cl_196), .ref e2, .int (nI ol_208), .int j_198, .int j_199, .int j_200, .int j_201])), (e0, .inl (k0, 60, .inl f_202)), (e2, .inl (k2, 60, .inl g_209))]) hP hD [0, 1, 2] [] rfl rfl (by decide) (by decide) hk1 hFc hP1 hD1
              have hK := (hK.sub (tys' := []) [] rfl).app hK1
              have hP : va_P (dC, dI) vwCl [(h0, .inr (8, [.ref e0, .int (nI cl_196), .ref e2, .int (nI ol_208), .int j_198, .int j_199, .int j_200, .int j_201])), (e0, .inl (k0, 60, .inl f_202)), (e2, .inl (k2, 60, .inl g_209))] H := hP
              have hD : va_D A [(h0, .inr (8, [.ref e0, .int (nI cl_196), .ref e2, .int (nI ol_208), .int j_198, .int j_199, .int j_200, .int j_201])), (e0, .inl (k0, 60, .inl f_202)), (e2, .inl (k2, 60, .inl g_209))] := hD
              have hK : va_K (dC, dI) vwCl [(k0, .int), (k2, .char)] s := hK
              refine lv_aload_n hx hb dX8_followsThing_118 rfl (lv_at hl 1 rfl) ?_
              refine lv_iconst (v := 1) hx hb dX8_followsThing_119 (by decide) ?_
              refine va_put (D := (dC, dI)) (ci := 8) (v := .int 1) (ty := .boolean) (C := RX8) (T := TX8) (N := 8) hx hb hts (fun _ hh => (List.mem_cons_of_mem _ (List.mem_append_right _ (List.mem_append_right _ (List.mem_append_right _ (List.mem_append_left _ hh)))))) tyX8 tyX8_ok nmX8 hown hK hP hD hS 0 rfl rfl 7 (by decide) (hts (.fieldLink RX8 35 "TypingPool$Reader" "wantsThing" "Z") (List.mem_cons_of_mem _ (List.mem_append_left _ (List.mem_of_getElem? (i := 15) rfl)))) (fun _ h9 => h9) rfl (tyX8_ok 7 (by decide)) rfl rfl (Nat.le_of_ble_eq_true rfl) dX8_followsThing_120 (fun H locs hP hD hS => ?_)
              have hP : va_P (dC, dI) vwCl [(h0, .inr (8, [.ref e0, .int (nI cl_196), .ref e2, .int (nI ol_208), .int j_198, .int j_199, .int j_200, .int 1])), (e0, .inl (k0, 60, .inl f_202)), (e2, .inl (k2, 60, .inl g_209))] H := hP
              have hD : va_D A [(h0, .inr (8, [.ref e0, .int (nI cl_196), .ref e2, .int (nI ol_208), .int j_198, .int j_199, .int j_200, .int 1])), (e0, .inl (k0, 60, .inl f_202)), (e2, .inl (k2, 60, .inl g_209))] := hD
              refine lv_iconst (v := 1) hx hb dX8_followsThing_123 (by decide) ?_
              have hP9 := hP.sub (ws' := [(h0, .inr (8, [.ref e0, .int (nI cl_196), .ref e2, .int (nI ol_208), .int j_198, .int j_199, .int j_200, .int 1])), (e0, .inl (k0, 60, .inl f_202)), (e2, .inl (k2, 60, .inl g_209))]) [0, 1, 2] rfl
              have hD9 := hD.sub (ws' := [(h0, .inr (8, [.ref e0, .int (nI cl_196), .ref e2, .int (nI ol_208), .int j_198, .int j_199, .int j_200, .int 1])), (e0, .inl (k0, 60, .inl f_202)), (e2, .inl (k2, 60, .inl g_209))]) [0, 1, 2] (by decide) rfl
              have hK9 := hK.sub (tys' := [(k0, .int), (k2, .char)]) [0, 1] rfl
              exact W.zret (v := 1) hx hb hr (by decide) (fun t ht hW => ⟨⟨1, 1, rfl, rfl, Or.inl ⟨cl_196, ol_208, j_198, j_199, j_200, 1, f_202, g_209, rfl, hf_205, hf_211, by rw [ht]; exact hP9, va_K.moved hW.alike hK9, hD9⟩⟩, hS.F ht⟩) hS.2.2 dX8_followsThing_124
            · refine lv_iconst (v := 0) hx hb dX8_followsThing_66 (by decide) ?_
              have hP9 := hP.sub (ws' := [(h0, .inr (8, [.ref e0, .int (nI cl), .ref e2, .int (nI ol), .int i4, .int i5, .int 0, .int i7])), (e0, .inl (k0, 60, .inl f0)), (e2, .inl (k2, 60, .inl g0))]) [0, 1, 2] rfl
              have hD9 := hD.sub (ws' := [(h0, .inr (8, [.ref e0, .int (nI cl), .ref e2, .int (nI ol), .int i4, .int i5, .int 0, .int i7])), (e0, .inl (k0, 60, .inl f0)), (e2, .inl (k2, 60, .inl g0))]) [0, 1, 2] (by decide) rfl
              have hK9 := hK.sub (tys' := [(k0, .int), (k2, .char)]) [0, 1] rfl
              exact W.zret (v := 0) hx hb hr (by decide) (fun t ht hW => ⟨⟨0, 0, rfl, rfl, Or.inr (⟨cl, ol, i4, i5, 0, i7, f0, g0, rfl, (by omega), (by omega), by rw [ht]; exact hP9, va_K.moved hW.alike hK9, hD9⟩)⟩, hS.F ht⟩) hS.2.2 dX8_followsThing_67
        · refine lv_iconst (v := 0) hx hb dX8_followsThing_44 (by decide) ?_
          have hP9 := hP.sub (ws' := [(h0, .inr (8, [.ref e0, .int (nI cl), .ref e2, .int (nI ol), .int i4, .int i5, .int 0, .int i7])), (e0, .inl (k0, 60, .inl f0)), (e2, .inl (k2, 60, .inl g0))]) [0, 1, 2] rfl
          have hD9 := hD.sub (ws' := [(h0, .inr (8, [.ref e0, .int (nI cl), .ref e2, .int (nI ol), .int i4, .int i5, .int 0, .int i7])), (e0, .inl (k0, 60, .inl f0)), (e2, .inl (k2, 60, .inl g0))]) [0, 1, 2] (by decide) rfl
          have hK9 := hK.sub (tys' := [(k0, .int), (k2, .char)]) [0, 1] rfl
          exact W.zret (v := 0) hx hb hr (by decide) (fun t ht hW => ⟨⟨0, 0, rfl, rfl, Or.inr (⟨cl, ol, i4, i5, 0, i7, f0, g0, rfl, (by omega), (by omega), by rw [ht]; exact hP9, va_K.moved hW.alike hK9, hD9⟩)⟩, hS.F ht⟩) hS.2.2 dX8_followsThing_45
    · refine lv_aload_n hx hb dX8_followsThing_24 rfl (lv_at hl 0 rfl) ?_
      have hPc := hP.sub (ws' := [(h0, .inr (8, [.ref e0, .int (nI cl), .ref e2, .int (nI ol), .int i4, .int i5, .int 0, .int i7])), (e0, .inl (k0, 60, .inl f0)), (e2, .inl (k2, 60, .inl g0))]) [0, 1, 2] rfl
      have hDc := hD.sub (ws' := [(h0, .inr (8, [.ref e0, .int (nI cl), .ref e2, .int (nI ol), .int i4, .int i5, .int 0, .int i7])), (e0, .inl (k0, 60, .inl f0)), (e2, .inl (k2, 60, .inl g0))]) [0, 1, 2] (by decide) rfl
      have hKc := hK.sub (tys' := [(k0, .int), (k2, .char)]) [0, 1] rfl
      have hFc := va_free (wc := [(h0, .inr (8, [.ref e0, .int (nI cl), .ref e2, .int (nI ol), .int i4, .int i5, .int 0, .int i7])), (e0, .inl (k0, 60, .inl f0)), (e2, .inl (k2, 60, .inl g0))]) hD hS hA [0, 1, 2] rfl
      refine va_calli (va_runV (As := []) (rest := []) ⟨hx, hb, hml, hown, hts⟩ (r_closesBracket l dC dI ad av H.size h0 e0 e2 cl ol k0 k2 f0 g0 i4 i5 0 i7 (by omega) (by omega)) (cwV 0 hts (gi_4 (List.mem_cons_of_mem _ (List.mem_append_left _ (List.mem_of_getElem? (i := 18) rfl))) (List.mem_cons_of_mem _ (List.mem_append_left _ (List.mem_of_getElem? (i := 19) rfl))) (List.mem_cons_of_mem _ (List.mem_append_left _ (List.mem_of_getElem? (i := 20) rfl))) (List.mem_cons_of_mem _ (List.mem_append_left _ (List.mem_of_getElem? (i := 2) rfl))) (fun _ hh => (List.mem_cons_of_mem _ (List.mem_append_right _ (List.mem_append_right _ (List.mem_append_right _ (List.mem_append_right _ (List.mem_append_right _ (List.mem_append_right _ (List.mem_append_right _ (List.mem_append_left _ hh)))))))))) gd_r_closesBracket) rfl rfl rfl (by decide +kernel) ⟨Nat.le_of_ble_eq_true rfl, Nat.le_of_ble_eq_true rfl⟩) ⟨pr_blind, va_recv hKc hPc (ci := 8) (q0 := 0) rfl rfl, pr_use hPc hKc hDc hFc hS hM⟩ rfl rfl hl.1 rfl (lv_room (Nat.le_of_ble_eq_true rfl)) dX8_followsThing_25 ⟨Nat.le_of_ble_eq_true rfl, Nat.le_of_ble_eq_true rfl⟩) hS (fun q _ h => hFc q h) hFc (fun r_212 u t H locs ht hvm hw hB hz1 hk1 hS => ?_)
      refine W.widen (k := 0) (n := 0) (Nat.le_of_ble_eq_true rfl) (Nat.le_of_ble_eq_true rfl) ?_
      subst hw
      rcases hB with ⟨cl_213, ol_214, j_215, j_216, j_217, j_218, f_219, g_220, hre_221, hf_222, hf_223, hP1, hK1, hD1⟩ | ⟨cl_224, ol_225, j_226, j_227, j_228, j_229, f_230, g_231, hre_232, hf_233, hf_234, hP1, hK1, hD1⟩
      · refine lq_top (v := 1) hre_221 ?_
        rw [ht] at hP1
        have hK1 := va_K.moved hvm.symm hK1
        obtain ⟨hP, hD⟩ := va_join (wr := []) (w1 := [(h0, .inr (8, [.ref e0, .int (nI cl_213), .ref e2, .int (nI ol_214), .int j_215, .int j_216, .int j_217, .int j_218])), (e0, .inl (k0, 60, .inl f_219)), (e2, .inl (k2, 60, .inl g_220))]) hP hD [0, 1, 2] [] rfl rfl (by decide) (by decide) hk1 hFc hP1 hD1
        have hK := (hK.sub (tys' := []) [] rfl).app hK1
        have hP : va_P (dC, dI) vwCl [(h0, .inr (8, [.ref e0, .int (nI cl_213), .ref e2, .int (nI ol_214), .int j_215, .int j_216, .int j_217, .int j_218])), (e0, .inl (k0, 60, .inl f_219)), (e2, .inl (k2, 60, .inl g_220))] H := hP
        have hD : va_D A [(h0, .inr (8, [.ref e0, .int (nI cl_213), .ref e2, .int (nI ol_214), .int j_215, .int j_216, .int j_217, .int j_218])), (e0, .inl (k0, 60, .inl f_219)), (e2, .inl (k2, 60, .inl g_220))] := hD
        have hK : va_K (dC, dI) vwCl [(k0, .int), (k2, .char)] s := hK
        have hP9 := hP.sub (ws' := [(h0, .inr (8, [.ref e0, .int (nI cl_213), .ref e2, .int (nI ol_214), .int j_215, .int j_216, .int j_217, .int j_218])), (e0, .inl (k0, 60, .inl f_219)), (e2, .inl (k2, 60, .inl g_220))]) [0, 1, 2] rfl
        have hD9 := hD.sub (ws' := [(h0, .inr (8, [.ref e0, .int (nI cl_213), .ref e2, .int (nI ol_214), .int j_215, .int j_216, .int j_217, .int j_218])), (e0, .inl (k0, 60, .inl f_219)), (e2, .inl (k2, 60, .inl g_220))]) [0, 1, 2] (by decide) rfl
        have hK9 := hK.sub (tys' := [(k0, .int), (k2, .char)]) [0, 1] rfl
        exact W.zret (v := 1) hx hb hr (by decide) (fun t ht hW => ⟨⟨1, 1, rfl, rfl, Or.inl ⟨cl_213, ol_214, j_215, j_216, j_217, j_218, f_219, g_220, rfl, hf_222, hf_223, by rw [ht]; exact hP9, va_K.moved hW.alike hK9, hD9⟩⟩, hS.F ht⟩) hS.2.2 dX8_followsThing_28
      · refine lq_top (v := 0) hre_232 ?_
        rw [ht] at hP1
        have hK1 := va_K.moved hvm.symm hK1
        obtain ⟨hP, hD⟩ := va_join (wr := []) (w1 := [(h0, .inr (8, [.ref e0, .int (nI cl_224), .ref e2, .int (nI ol_225), .int j_226, .int j_227, .int j_228, .int j_229])), (e0, .inl (k0, 60, .inl f_230)), (e2, .inl (k2, 60, .inl g_231))]) hP hD [0, 1, 2] [] rfl rfl (by decide) (by decide) hk1 hFc hP1 hD1
        have hK := (hK.sub (tys' := []) [] rfl).app hK1
        have hP : va_P (dC, dI) vwCl [(h0, .inr (8, [.ref e0, .int (nI cl_224), .ref e2, .int (nI ol_225), .int j_226, .int j_227, .int j_228, .int j_229])), (e0, .inl (k0, 60, .inl f_230)), (e2, .inl (k2, 60, .inl g_231))] H := hP
        have hD : va_D A [(h0, .inr (8, [.ref e0, .int (nI cl_224), .ref e2, .int (nI ol_225), .int j_226, .int j_227, .int j_228, .int j_229])), (e0, .inl (k0, 60, .inl f_230)), (e2, .inl (k2, 60, .inl g_231))] := hD
        have hK : va_K (dC, dI) vwCl [(k0, .int), (k2, .char)] s := hK
        have hP9 := hP.sub (ws' := [(h0, .inr (8, [.ref e0, .int (nI cl_224), .ref e2, .int (nI ol_225), .int j_226, .int j_227, .int j_228, .int j_229])), (e0, .inl (k0, 60, .inl f_230)), (e2, .inl (k2, 60, .inl g_231))]) [0, 1, 2] rfl
        have hD9 := hD.sub (ws' := [(h0, .inr (8, [.ref e0, .int (nI cl_224), .ref e2, .int (nI ol_225), .int j_226, .int j_227, .int j_228, .int j_229])), (e0, .inl (k0, 60, .inl f_230)), (e2, .inl (k2, 60, .inl g_231))]) [0, 1, 2] (by decide) rfl
        have hK9 := hK.sub (tys' := [(k0, .int), (k2, .char)]) [0, 1] rfl
        exact W.zret (v := 0) hx hb hr (by decide) (fun t ht hW => ⟨⟨0, 0, rfl, rfl, Or.inr (⟨cl_224, ol_225, j_226, j_227, j_228, j_229, f_230, g_231, rfl, hf_233, hf_234, by rw [ht]; exact hP9, va_K.moved hW.alike hK9, hD9⟩)⟩, hS.F ht⟩) hS.2.2 dX8_followsThing_28
def wo_r_read : List Cond := [.fieldLink RX8 19 "TypingPool$Reader" "codeLength" "I", .fieldLink RX8 23 "TypingPool$Reader" "openLength" "I", .fieldLink RX8 26 "TypingPool$Reader" "depth" "I", .fieldLink RX8 29 "TypingPool$Reader" "compared" "I", .fieldLink RX8 32 "TypingPool$Reader" "digits" "I", .fieldLink RX8 35 "TypingPool$Reader" "wantsThing" "Z", .methodLink RX8 39 Lib.Math.min.name, .static Lib.Math.min.name, .initialized "java/lang/Math", .code Lib.Math.min.name Lib.Math.min.code 2 (some .int), .methodLink RX8 53 yX8_close, .instanceMethod yX8_close, .selects RX8 yX8_close yX8_close, .initialized RX8, .methodLink RX8 49 yX8_followsThing, .instanceMethod yX8_followsThing, .selects RX8 yX8_followsThing yX8_followsThing, .methodLink RX8 45 yX8_beginsThing, .instanceMethod yX8_beginsThing, .selects RX8 yX8_beginsThing yX8_beginsThing]
def wm_r_read : List Cond := .code yX8_read cX8_read 7 (some .int) :: (wo_r_read ++ (wsX80 ++ (wm_r_close ++ (wm_r_followsThing ++ (wm_r_beginsThing ++ ([] : List Cond))))))
theorem gd_r_read : ∀ w ∈ wm_r_read, goodWord w = true := gd_c rfl (gd_a (by decide) (gd_a gd_wsX80 (gd_a gd_r_close (gd_a gd_r_followsThing (gd_a gd_r_beginsThing gd_nil)))))
set_option maxRecDepth 20000 in
theorem im_r_read : ∀ w ∈ wm_r_read, w ∈ lw_tbl := im_c (in_r [.code yX8_read cX8_read 7 (some .int)] [258] (by decide +kernel)) (in_app (in_r wo_r_read [171, 173, 174, 175, 176, 177, 259, 260, 78, 261, 353, 355, 6, 73, 341, 343, 3, 262, 264, 0] (by decide +kernel)) (in_app im_wsX80 (in_app im_r_close (in_app im_r_followsThing (in_app im_r_beginsThing im_nil)))))
set_option maxHeartbeats 4000000 in
set_option maxRecDepth 100000 in
theorem r_read (l : Launch) (dC : Nat → ClassId) (dI : Nat → Nat → Nat) (ad av : Nat → Nat) (sz : Nat) (h0 : Nat) (e0 : Nat) (e2 : Nat) (sg : Nat) (nn : Nat) (k0 : ClassId) (k2 : ClassId) (ks : ClassId) (f0 : Nat → Int32) (g0 : Nat → Int32) (fs : Nat → Int32) (i1 : Int32) (i3 : Int32) (i4 : Int32) (i5 : Int32) (i6 : Int32) (i7 : Int32) (i : Nat) (hnn : nn ≤ 23) (hi : i < 9) : Met l yX8_read wm_r_read ({ frames := 10, cells := 0, slots := 0, locals := 350 }) (pr_ ad av (dC, dI) sz [.ref h0, .ref sg, .int (nI nn), .ref (ad i)] [(h0, .inr (8, [.ref e0, .int i1, .ref e2, .int i3, .int i4, .int i5, .int i6, .int i7])), (e0, .inl (k0, 60, .inl f0)), (e2, .inl (k2, 60, .inl g0)), (sg, .inl (ks, nn, .inl fs))] [(k0, .int), (k2, .char), (ks, .char)]) (va_Qi (fun (r u : Int32) => u = r) (fun (r : Int32) (t : State) => (∃ (r9 : Int32), ∃ (cl1 : Nat), ∃ (ol1 : Nat), ∃ (j4 : Int32), ∃ (j5 : Int32), ∃ (j6 : Int32), ∃ (j7 : Int32), ∃ (f1 : Nat → Int32), ∃ (g1 : Nat → Int32), r = r9 ∧ cl1 ≤ 60 ∧ ol1 ≤ 60 ∧ po_ (dC, dI) (va_A [(h0, .inr (8, [.ref e0, .int i1, .ref e2, .int i3, .int i4, .int i5, .int i6, .int i7])), (e0, .inl (k0, 60, .inl f0)), (e2, .inl (k2, 60, .inl g0)), (sg, .inl (ks, nn, .inl fs))] sz) [(h0, .inr (8, [.ref e0, .int (nI cl1), .ref e2, .int (nI ol1), .int j4, .int j5, .int j6, .int j7])), (e0, .inl (k0, 60, .inl f1)), (e2, .inl (k2, 60, .inl g1))] [(k0, .int), (k2, .char)] t)) (va_A [(h0, .inr (8, [.ref e0, .int i1, .ref e2, .int i3, .int i4, .int i5, .int i6, .int i7])), (e0, .inl (k0, 60, .inl f0)), (e2, .inl (k2, 60, .inl g0)), (sg, .inl (ks, nn, .inl fs))] sz)) 0 0 (va_A [(h0, .inr (8, [.ref e0, .int i1, .ref e2, .int i3, .int i4, .int i5, .int i6, .int i7])), (e0, .inl (k0, 60, .inl f0)), (e2, .inl (k2, 60, .inl g0)), (sg, .inl (ks, nn, .inl fs))] sz) := by
  refine Met.ofW (cc := cX8_read) (maxL := 7) (ret := (some .int)) (by decide) rfl ?_
  intro p e s m args below meth c s₁ B hml hv
  obtain ⟨rfl, hsz, hP, hK, hD0, hM⟩ := hv
  have hx := B.exec
  have hb := B.bytes
  have hr := B.returns
  have hts := atoms_spec (ws := wm_r_read) B.pre
  have hown : s.vm.findClass RX8 = some m.cls := findClass_of_methodNamed B.named
  have hlocks := B.notSynchronized
  subst hsz
  have hD := hD0.self (sz := s.heap.size)
  generalize hAe : va_A [(h0, .inr (8, [.ref e0, .int i1, .ref e2, .int i3, .int i4, .int i5, .int i6, .int i7])), (e0, .inl (k0, 60, .inl f0)), (e2, .inl (k2, 60, .inl g0)), (sg, .inl (ks, nn, .inl fs))] s.heap.size = A at hD hM ⊢
  have hA : ∀ q : Nat, s.heap.size ≤ q → A q := fun q h => by rw [← hAe]; exact Or.inr h
  have hS : va_S A s.heap s.heap [] := va_S.rf
  have hP : va_P (dC, dI) vwCl [(h0, .inr (8, [.ref e0, .int i1, .ref e2, .int i3, .int i4, .int i5, .int i6, .int i7])), (e0, .inl (k0, 60, .inl f0)), (e2, .inl (k2, 60, .inl g0)), (sg, .inl (ks, nn, .inl fs))] s.heap := hP
  have hl := lv_entry ([.ref h0, .ref sg, .int (nI nn), .ref (ad i)]) (n := 7) (Nat.le_of_ble_eq_true rfl)
  rw [lg_entry_eq]
  generalize (lg_sl ([.ref h0, .ref sg, .int (nI nn), .ref (ad i)]) ++ List.replicate (7 - (lg_sl ([.ref h0, .ref sg, .int (nI nn), .ref (ad i)])).length) Slot.unset).toArray = ls at hl ⊢
  have hl : lv_has ls 7 [(0, .ref h0), (1, .ref sg), (2, .int (nI nn)), (3, .ref (ad i))] := hl
  have hStr := st_at hM i hi
  have hsL := sL_le i
  obtain ⟨fS, hT⟩ := hStr.2.2.2
  refine lv_aload_n hx hb dX8_read_0 rfl (lv_at hl 0 rfl) ?_
  refine lv_iconst (v := 0) hx hb dX8_read_1 (by decide) ?_
  refine va_put (D := (dC, dI)) (ci := 8) (v := .int 0) (ty := .int) (C := RX8) (T := TX8) (N := 8) hx hb hts (fun _ hh => (List.mem_cons_of_mem _ (List.mem_append_right _ (List.mem_append_left _ hh)))) tyX8 tyX8_ok nmX8 hown hK hP hD hS 0 rfl rfl 1 (by decide) (hts (.fieldLink RX8 19 "TypingPool$Reader" "codeLength" "I") (List.mem_cons_of_mem _ (List.mem_append_left _ (List.mem_of_getElem? (i := 0) rfl)))) (fun _ h9 => h9) rfl (tyX8_ok 1 (by decide)) rfl rfl (Nat.le_of_ble_eq_true rfl) dX8_read_2 (fun H locs hP hD hS => ?_)
  have hP : va_P (dC, dI) vwCl [(h0, .inr (8, [.ref e0, .int 0, .ref e2, .int i3, .int i4, .int i5, .int i6, .int i7])), (e0, .inl (k0, 60, .inl f0)), (e2, .inl (k2, 60, .inl g0)), (sg, .inl (ks, nn, .inl fs))] H := hP
  have hD : va_D A [(h0, .inr (8, [.ref e0, .int 0, .ref e2, .int i3, .int i4, .int i5, .int i6, .int i7])), (e0, .inl (k0, 60, .inl f0)), (e2, .inl (k2, 60, .inl g0)), (sg, .inl (ks, nn, .inl fs))] := hD
  refine lv_aload_n hx hb dX8_read_5 rfl (lv_at hl 0 rfl) ?_
  refine lv_iconst (v := 0) hx hb dX8_read_6 (by decide) ?_
  refine va_put (D := (dC, dI)) (ci := 8) (v := .int 0) (ty := .int) (C := RX8) (T := TX8) (N := 8) hx hb hts (fun _ hh => (List.mem_cons_of_mem _ (List.mem_append_right _ (List.mem_append_left _ hh)))) tyX8 tyX8_ok nmX8 hown hK hP hD hS 0 rfl rfl 3 (by decide) (hts (.fieldLink RX8 23 "TypingPool$Reader" "openLength" "I") (List.mem_cons_of_mem _ (List.mem_append_left _ (List.mem_of_getElem? (i := 1) rfl)))) (fun _ h9 => h9) rfl (tyX8_ok 3 (by decide)) rfl rfl (Nat.le_of_ble_eq_true rfl) dX8_read_7 (fun H locs hP hD hS => ?_)
  have hP : va_P (dC, dI) vwCl [(h0, .inr (8, [.ref e0, .int 0, .ref e2, .int 0, .int i4, .int i5, .int i6, .int i7])), (e0, .inl (k0, 60, .inl f0)), (e2, .inl (k2, 60, .inl g0)), (sg, .inl (ks, nn, .inl fs))] H := hP
  have hD : va_D A [(h0, .inr (8, [.ref e0, .int 0, .ref e2, .int 0, .int i4, .int i5, .int i6, .int i7])), (e0, .inl (k0, 60, .inl f0)), (e2, .inl (k2, 60, .inl g0)), (sg, .inl (ks, nn, .inl fs))] := hD
  refine lv_aload_n hx hb dX8_read_10 rfl (lv_at hl 0 rfl) ?_
  refine lv_iconst (v := 0) hx hb dX8_read_11 (by decide) ?_
  refine va_put (D := (dC, dI)) (ci := 8) (v := .int 0) (ty := .int) (C := RX8) (T := TX8) (N := 8) hx hb hts (fun _ hh => (List.mem_cons_of_mem _ (List.mem_append_right _ (List.mem_append_left _ hh)))) tyX8 tyX8_ok nmX8 hown hK hP hD hS 0 rfl rfl 4 (by decide) (hts (.fieldLink RX8 26 "TypingPool$Reader" "depth" "I") (List.mem_cons_of_mem _ (List.mem_append_left _ (List.mem_of_getElem? (i := 2) rfl)))) (fun _ h9 => h9) rfl (tyX8_ok 4 (by decide)) rfl rfl (Nat.le_of_ble_eq_true rfl) dX8_read_12 (fun H locs hP hD hS => ?_)
  have hP : va_P (dC, dI) vwCl [(h0, .inr (8, [.ref e0, .int 0, .ref e2, .int 0, .int 0, .int i5, .int i6, .int i7])), (e0, .inl (k0, 60, .inl f0)), (e2, .inl (k2, 60, .inl g0)), (sg, .inl (ks, nn, .inl fs))] H := hP
  have hD : va_D A [(h0, .inr (8, [.ref e0, .int 0, .ref e2, .int 0, .int 0, .int i5, .int i6, .int i7])), (e0, .inl (k0, 60, .inl f0)), (e2, .inl (k2, 60, .inl g0)), (sg, .inl (ks, nn, .inl fs))] := hD
  refine lv_aload_n hx hb dX8_read_15 rfl (lv_at hl 0 rfl) ?_
  refine lv_iconst (v := 0) hx hb dX8_read_16 (by decide) ?_
  refine va_put (D := (dC, dI)) (ci := 8) (v := .int 0) (ty := .int) (C := RX8) (T := TX8) (N := 8) hx hb hts (fun _ hh => (List.mem_cons_of_mem _ (List.mem_append_right _ (List.mem_append_left _ hh)))) tyX8 tyX8_ok nmX8 hown hK hP hD hS 0 rfl rfl 5 (by decide) (hts (.fieldLink RX8 29 "TypingPool$Reader" "compared" "I") (List.mem_cons_of_mem _ (List.mem_append_left _ (List.mem_of_getElem? (i := 3) rfl)))) (fun _ h9 => h9) rfl (tyX8_ok 5 (by decide)) rfl rfl (Nat.le_of_ble_eq_true rfl) dX8_read_17 (fun H locs hP hD hS => ?_)
  have hP : va_P (dC, dI) vwCl [(h0, .inr (8, [.ref e0, .int 0, .ref e2, .int 0, .int 0, .int 0, .int i6, .int i7])), (e0, .inl (k0, 60, .inl f0)), (e2, .inl (k2, 60, .inl g0)), (sg, .inl (ks, nn, .inl fs))] H := hP
  have hD : va_D A [(h0, .inr (8, [.ref e0, .int 0, .ref e2, .int 0, .int 0, .int 0, .int i6, .int i7])), (e0, .inl (k0, 60, .inl f0)), (e2, .inl (k2, 60, .inl g0)), (sg, .inl (ks, nn, .inl fs))] := hD
  refine lv_aload_n hx hb dX8_read_20 rfl (lv_at hl 0 rfl) ?_
  refine lv_iconst (v := 0) hx hb dX8_read_21 (by decide) ?_
  refine va_put (D := (dC, dI)) (ci := 8) (v := .int 0) (ty := .int) (C := RX8) (T := TX8) (N := 8) hx hb hts (fun _ hh => (List.mem_cons_of_mem _ (List.mem_append_right _ (List.mem_append_left _ hh)))) tyX8 tyX8_ok nmX8 hown hK hP hD hS 0 rfl rfl 6 (by decide) (hts (.fieldLink RX8 32 "TypingPool$Reader" "digits" "I") (List.mem_cons_of_mem _ (List.mem_append_left _ (List.mem_of_getElem? (i := 4) rfl)))) (fun _ h9 => h9) rfl (tyX8_ok 6 (by decide)) rfl rfl (Nat.le_of_ble_eq_true rfl) dX8_read_22 (fun H locs hP hD hS => ?_)
  have hP : va_P (dC, dI) vwCl [(h0, .inr (8, [.ref e0, .int 0, .ref e2, .int 0, .int 0, .int 0, .int 0, .int i7])), (e0, .inl (k0, 60, .inl f0)), (e2, .inl (k2, 60, .inl g0)), (sg, .inl (ks, nn, .inl fs))] H := hP
  have hD : va_D A [(h0, .inr (8, [.ref e0, .int 0, .ref e2, .int 0, .int 0, .int 0, .int 0, .int i7])), (e0, .inl (k0, 60, .inl f0)), (e2, .inl (k2, 60, .inl g0)), (sg, .inl (ks, nn, .inl fs))] := hD
  refine lv_aload_n hx hb dX8_read_25 rfl (lv_at hl 0 rfl) ?_
  refine lv_iconst (v := 1) hx hb dX8_read_26 (by decide) ?_
  refine va_put (D := (dC, dI)) (ci := 8) (v := .int 1) (ty := .boolean) (C := RX8) (T := TX8) (N := 8) hx hb hts (fun _ hh => (List.mem_cons_of_mem _ (List.mem_append_right _ (List.mem_append_left _ hh)))) tyX8 tyX8_ok nmX8 hown hK hP hD hS 0 rfl rfl 7 (by decide) (hts (.fieldLink RX8 35 "TypingPool$Reader" "wantsThing" "Z") (List.mem_cons_of_mem _ (List.mem_append_left _ (List.mem_of_getElem? (i := 5) rfl)))) (fun _ h9 => h9) rfl (tyX8_ok 7 (by decide)) rfl rfl (Nat.le_of_ble_eq_true rfl) dX8_read_27 (fun H locs hP hD hS => ?_)
  have hP : va_P (dC, dI) vwCl [(h0, .inr (8, [.ref e0, .int 0, .ref e2, .int 0, .int 0, .int 0, .int 0, .int 1])), (e0, .inl (k0, 60, .inl f0)), (e2, .inl (k2, 60, .inl g0)), (sg, .inl (ks, nn, .inl fs))] H := hP
  have hD : va_D A [(h0, .inr (8, [.ref e0, .int 0, .ref e2, .int 0, .int 0, .int 0, .int 0, .int 1])), (e0, .inl (k0, 60, .inl f0)), (e2, .inl (k2, 60, .inl g0)), (sg, .inl (ks, nn, .inl fs))] := hD
  refine lv_iload_n hx hb dX8_read_30 rfl (lv_at hl 2 rfl) ?_
  refine lv_bipush (v := 60) hx hb dX8_read_31 (by decide) ?_
  refine va_mmin hx hb (by rw [hml]; exact hl.1.symm) hown (hts (.methodLink RX8 39 Lib.Math.min.name) (List.mem_cons_of_mem _ (List.mem_append_left _ (List.mem_of_getElem? (i := 6) rfl)))) (hts (.static Lib.Math.min.name) (List.mem_cons_of_mem _ (List.mem_append_left _ (List.mem_of_getElem? (i := 7) rfl)))) (hts (.initialized "java/lang/Math") (List.mem_cons_of_mem _ (List.mem_append_left _ (List.mem_of_getElem? (i := 8) rfl)))) (hts (.code Lib.Math.min.name Lib.Math.min.code 2 (some .int)) (List.mem_cons_of_mem _ (List.mem_append_left _ (List.mem_of_getElem? (i := 9) rfl)))) (Nat.le_of_ble_eq_true rfl) (Nat.le_of_ble_eq_true rfl) (Nat.le_of_ble_eq_true rfl) (Nat.le_of_ble_eq_true rfl) dX8_read_33 ?_
  refine lq_top (v := nI nn) (q_min2 nn 60 rfl rfl (by omega) (by omega) (by omega)) ?_
  refine lv_aload_n hx hb dX8_read_36 rfl (lv_at hl 1 rfl) ?_
  refine va_alen (v := nI nn) hx hb hK hP 3 2 rfl rfl rfl dX8_read_37 ?_
  refine va_mmin hx hb (by rw [hml]; exact hl.1.symm) hown (hts (.methodLink RX8 39 Lib.Math.min.name) (List.mem_cons_of_mem _ (List.mem_append_left _ (List.mem_of_getElem? (i := 6) rfl)))) (hts (.static Lib.Math.min.name) (List.mem_cons_of_mem _ (List.mem_append_left _ (List.mem_of_getElem? (i := 7) rfl)))) (hts (.initialized "java/lang/Math") (List.mem_cons_of_mem _ (List.mem_append_left _ (List.mem_of_getElem? (i := 8) rfl)))) (hts (.code Lib.Math.min.name Lib.Math.min.code 2 (some .int)) (List.mem_cons_of_mem _ (List.mem_append_left _ (List.mem_of_getElem? (i := 9) rfl)))) (Nat.le_of_ble_eq_true rfl) (Nat.le_of_ble_eq_true rfl) (Nat.le_of_ble_eq_true rfl) (Nat.le_of_ble_eq_true rfl) dX8_read_38 ?_
  refine lq_top (v := nI nn) (ite_self _) ?_
  refine lv_istore (lv' := [(4, .int (nI nn)), (0, .ref h0), (1, .ref sg), (2, .int (nI nn)), (3, .ref (ad i))]) hx hb dX8_read_41 hl (by decide) rfl (fun ls hl => ?_)
  refine lv_iconst (v := 0) hx hb dX8_read_43 (by decide) ?_
  refine lv_istore (lv' := [(5, .int 0), (4, .int (nI nn)), (0, .ref h0), (1, .ref sg), (2, .int (nI nn)), (3, .ref (ad i))]) hx hb dX8_read_44 hl (by decide) rfl (fun ls hl => ?_)
  have loop_46 : ∀ (n : Nat) (j : Nat) (cl : Nat) (ol : Nat) (i4 : Int32) (i5 : Int32) (i6 : Int32) (i7 : Int32) (f0 : Nat → Int32) (g0 : Nat → Int32) (H : Heap) (locs : List Loc) (ls : Array Slot), nn - j < n → j ≤ nn → cl ≤ 60 → ol ≤ 60 → va_K (dC, dI) vwCl [(k0, .int), (k2, .char), (ks, .char)] s → va_P (dC, dI) vwCl [(h0, .inr (8, [.ref e0, .int (nI cl), .ref e2, .int (nI ol), .int i4, .int i5, .int i6, .int i7])), (e0, .inl (k0, 60, .inl f0)), (e2, .inl (k2, 60, .inl g0)), (sg, .inl (ks, nn, .inl fs))] H → va_D A [(h0, .inr (8, [.ref e0, .int (nI cl), .ref e2, .int (nI ol), .int i4, .int i5, .int i6, .int i7])), (e0, .inl (k0, 60, .inl f0)), (e2, .inl (k2, 60, .inl g0)), (sg, .inl (ks, nn, .inl fs))] → va_S A s.heap H locs → lv_has ls 7 [(5, .int (nI j)), (4, .int (nI nn)), (0, .ref h0), (1, .ref sg), (2, .int (nI nn)), (3, .ref (ad i))] → W p l e (headSpec wm_r_read ({ frames := 10, cells := 0, slots := 0, locals := 350 })).room s m ([.ref h0, .ref sg, .int (nI nn), .ref (ad i)] : List Value).toArray below meth c H locs 0 0 (MQ below (va_Qi (fun (r u : Int32) => u = r) (fun (r : Int32) (t : State) => (∃ (r9 : Int32), ∃ (cl1 : Nat), ∃ (ol1 : Nat), ∃ (j4 : Int32), ∃ (j5 : Int32), ∃ (j6 : Int32), ∃ (j7 : Int32), ∃ (f1 : Nat → Int32), ∃ (g1 : Nat → Int32), r = r9 ∧ cl1 ≤ 60 ∧ ol1 ≤ 60 ∧ po_ (dC, dI) A [(h0, .inr (8, [.ref e0, .int (nI cl1), .ref e2, .int (nI ol1), .int j4, .int j5, .int j6, .int j7])), (e0, .inl (k0, 60, .inl f1)), (e2, .inl (k2, 60, .inl g1))] [(k0, .int), (k2, .char)] t)) A) ([.ref h0, .ref sg, .int (nI nn), .ref (ad i)] : List Value).toArray s 0 0 A) (F0 m 46 ls []) := by
    intro n
    induction n with
    | zero => intro j cl ol i4 i5 i6 i7 f0 g0 H locs ls hlt; exact absurd hlt (Nat.not_lt_zero _)
    | succ n ih_46 =>
      intro j cl ol i4 i5 i6 i7 f0 g0 H locs ls hlt hj hcl hol hK hP hD hS hl
      refine lv_iload hx hb dX8_read_46 (lv_at hl 0 rfl) ?_
      refine lv_iload hx hb dX8_read_48 (lv_at hl 1 rfl) ?_
      refine lv_icmp_ge (tgt := 96) hx hb dX8_read_50 (by decide) (fun c_235 => ?_) (fun c_235 => ?_)
      · have hn_c_235 := q_le nn j c_235 rfl rfl (by omega) (by omega)
        refine lv_iload_n hx hb dX8_read_96 rfl (lv_at hl 4 rfl) ?_
        refine lv_bipush (v := 60) hx hb dX8_read_97 (by decide) ?_
        refine lv_icmp_le (tgt := 105) hx hb dX8_read_99 (by decide) (fun c_236 => ?_) (fun c_236 => ?_)
        · have hn_c_236 := q_le nn 60 c_236 rfl rfl (by omega) (by omega)
          refine lv_aload_n hx hb dX8_read_105 rfl (lv_at hl 2 rfl) ?_
          refine va_get (D := (dC, dI)) (ci := 8) (v := .int i7) (C := RX8) (T := TX8) (N := 8) hx hb hts (fun _ hh => (List.mem_cons_of_mem _ (List.mem_append_right _ (List.mem_append_left _ hh)))) hown hK hP 0 rfl rfl 7 (by decide) (hts (.fieldLink RX8 35 "TypingPool$Reader" "wantsThing" "Z") (List.mem_cons_of_mem _ (List.mem_append_left _ (List.mem_of_getElem? (i := 5) rfl)))) (fun _ h9 => h9) rfl dX8_read_106 ?_
          refine lv_if_ne (tgt := 119) hx hb dX8_read_109 (by decide) (fun c_237 => ?_) (fun c_237 => ?_)
          · refine lv_iload_n hx hb dX8_read_119 rfl (lv_at hl 4 rfl) ?_
            have hP9 := hP.sub (ws' := [(h0, .inr (8, [.ref e0, .int (nI cl), .ref e2, .int (nI ol), .int i4, .int i5, .int i6, .int i7])), (e0, .inl (k0, 60, .inl f0)), (e2, .inl (k2, 60, .inl g0))]) [0, 1, 2] rfl
            have hD9 := hD.sub (ws' := [(h0, .inr (8, [.ref e0, .int (nI cl), .ref e2, .int (nI ol), .int i4, .int i5, .int i6, .int i7])), (e0, .inl (k0, 60, .inl f0)), (e2, .inl (k2, 60, .inl g0))]) [0, 1, 2] (by decide) rfl
            have hK9 := hK.sub (tys' := [(k0, .int), (k2, .char)]) [0, 1] rfl
            exact W.iret (v := nI nn) hx hb hr (fun t ht hW => ⟨⟨nI nn, nI nn, rfl, rfl, ⟨nI nn, cl, ol, i4, i5, i6, i7, f0, g0, rfl, hcl, hol, by rw [ht]; exact hP9, va_K.moved hW.alike hK9, hD9⟩⟩, hS.F ht⟩) hS.2.2 dX8_read_120
          · refine lv_aload_n hx hb dX8_read_112 rfl (lv_at hl 2 rfl) ?_
            refine va_get (D := (dC, dI)) (ci := 8) (v := .int i4) (C := RX8) (T := TX8) (N := 8) hx hb hts (fun _ hh => (List.mem_cons_of_mem _ (List.mem_append_right _ (List.mem_append_left _ hh)))) hown hK hP 0 rfl rfl 4 (by decide) (hts (.fieldLink RX8 26 "TypingPool$Reader" "depth" "I") (List.mem_cons_of_mem _ (List.mem_append_left _ (List.mem_of_getElem? (i := 2) rfl)))) (fun _ h9 => h9) rfl dX8_read_113 ?_
            refine lv_if_le (tgt := 121) hx hb dX8_read_116 (by decide) (fun c_238 => ?_) (fun c_238 => ?_)
            · refine lv_aload_n hx hb dX8_read_121 rfl (lv_at hl 2 rfl) ?_
              refine lv_iconst (v := 1) hx hb dX8_read_122 (by decide) ?_
              have hPc := hP.sub (ws' := [(h0, .inr (8, [.ref e0, .int (nI cl), .ref e2, .int (nI ol), .int i4, .int i5, .int i6, .int i7])), (e0, .inl (k0, 60, .inl f0)), (e2, .inl (k2, 60, .inl g0))]) [0, 1, 2] rfl
              have hDc := hD.sub (ws' := [(h0, .inr (8, [.ref e0, .int (nI cl), .ref e2, .int (nI ol), .int i4, .int i5, .int i6, .int i7])), (e0, .inl (k0, 60, .inl f0)), (e2, .inl (k2, 60, .inl g0))]) [0, 1, 2] (by decide) rfl
              have hKc := hK.sub (tys' := [(k0, .int), (k2, .char)]) [0, 1] rfl
              have hFc := va_free (wc := [(h0, .inr (8, [.ref e0, .int (nI cl), .ref e2, .int (nI ol), .int i4, .int i5, .int i6, .int i7])), (e0, .inl (k0, 60, .inl f0)), (e2, .inl (k2, 60, .inl g0))]) hD hS hA [0, 1, 2] rfl
              refine va_callv (va_runV (As := [.int 1]) (rest := []) ⟨hx, hb, hml, hown, hts⟩ (r_close l dC dI ad av H.size h0 e0 e2 cl ol k0 k2 f0 g0 i4 i5 i6 i7 1 hcl hol) (cwV 1 hts (gi_4 (List.mem_cons_of_mem _ (List.mem_append_left _ (List.mem_of_getElem? (i := 10) rfl))) (List.mem_cons_of_mem _ (List.mem_append_left _ (List.mem_of_getElem? (i := 11) rfl))) (List.mem_cons_of_mem _ (List.mem_append_left _ (List.mem_of_getElem? (i := 12) rfl))) (List.mem_cons_of_mem _ (List.mem_append_left _ (List.mem_of_getElem? (i := 13) rfl))) (fun _ hh => (List.mem_cons_of_mem _ (List.mem_append_right _ (List.mem_append_right _ (List.mem_append_left _ hh))))) gd_r_close) rfl rfl rfl (by decide +kernel) ⟨Nat.le_of_ble_eq_true rfl, Nat.le_of_ble_eq_true rfl⟩) ⟨pr_blind, va_recv hKc hPc (ci := 8) (q0 := 0) rfl rfl, pr_use hPc hKc hDc hFc hS hM⟩ rfl rfl hl.1 rfl (lv_room (Nat.le_of_ble_eq_true rfl)) dX8_read_123 ⟨Nat.le_of_ble_eq_true rfl, Nat.le_of_ble_eq_true rfl⟩) hS (fun q _ h => hFc q h) hFc (fun u t H locs ht hvm hw hB hz1 hk1 hS => ?_)
              refine W.widen (k := 0) (n := 0) (Nat.le_of_ble_eq_true rfl) (Nat.le_of_ble_eq_true rfl) ?_
              obtain ⟨cl_240, ol_241, j_242, j_243, j_244, j_245, f_246, g_247, hf_249, hf_250, hP1, hK1, hD1⟩ := hB
              rw [ht] at hP1
              have hK1 := va_K.moved hvm.symm hK1
              obtain ⟨hP, hD⟩ := va_join (wr := [(sg, .inl (ks, nn, .inl fs))]) (w1 := [(h0, .inr (8, [.ref e0, .int (nI cl_240), .ref e2, .int (nI ol_241), .int j_242, .int j_243, .int j_244, .int j_245])), (e0, .inl (k0, 60, .inl f_246)), (e2, .inl (k2, 60, .inl g_247))]) hP hD [0, 1, 2] [3] rfl rfl (by decide) (by decide) hk1 hFc hP1 hD1
              have hK := (hK.sub (tys' := [(ks, .char)]) [2] rfl).app hK1
              have hP : va_P (dC, dI) vwCl [(sg, .inl (ks, nn, .inl fs)), (h0, .inr (8, [.ref e0, .int (nI cl_240), .ref e2, .int (nI ol_241), .int j_242, .int j_243, .int j_244, .int j_245])), (e0, .inl (k0, 60, .inl f_246)), (e2, .inl (k2, 60, .inl g_247))] H := hP
              have hD : va_D A [(sg, .inl (ks, nn, .inl fs)), (h0, .inr (8, [.ref e0, .int (nI cl_240), .ref e2, .int (nI ol_241), .int j_242, .int j_243, .int j_244, .int j_245])), (e0, .inl (k0, 60, .inl f_246)), (e2, .inl (k2, 60, .inl g_247))] := hD
              have hK : va_K (dC, dI) vwCl [(ks, .char), (k0, .int), (k2, .char)] s := hK
              refine lv_iconst (v := (-1)) hx hb dX8_read_126 (by decide) ?_
              have hP9 := hP.sub (ws' := [(h0, .inr (8, [.ref e0, .int (nI cl_240), .ref e2, .int (nI ol_241), .int j_242, .int j_243, .int j_244, .int j_245])), (e0, .inl (k0, 60, .inl f_246)), (e2, .inl (k2, 60, .inl g_247))]) [1, 2, 3] rfl
              have hD9 := hD.sub (ws' := [(h0, .inr (8, [.ref e0, .int (nI cl_240), .ref e2, .int (nI ol_241), .int j_242, .int j_243, .int j_244, .int j_245])), (e0, .inl (k0, 60, .inl f_246)), (e2, .inl (k2, 60, .inl g_247))]) [1, 2, 3] (by decide) rfl
              have hK9 := hK.sub (tys' := [(k0, .int), (k2, .char)]) [1, 2] rfl
              exact W.iret (v := (-1)) hx hb hr (fun t ht hW => ⟨⟨(-1), (-1), rfl, rfl, ⟨(-1), cl_240, ol_241, j_242, j_243, j_244, j_245, f_246, g_247, rfl, hf_249, hf_250, by rw [ht]; exact hP9, va_K.moved hW.alike hK9, hD9⟩⟩, hS.F ht⟩) hS.2.2 dX8_read_127
            · refine lv_iload_n hx hb dX8_read_119 rfl (lv_at hl 4 rfl) ?_
              have hP9 := hP.sub (ws' := [(h0, .inr (8, [.ref e0, .int (nI cl), .ref e2, .int (nI ol), .int i4, .int i5, .int i6, .int i7])), (e0, .inl (k0, 60, .inl f0)), (e2, .inl (k2, 60, .inl g0))]) [0, 1, 2] rfl
              have hD9 := hD.sub (ws' := [(h0, .inr (8, [.ref e0, .int (nI cl), .ref e2, .int (nI ol), .int i4, .int i5, .int i6, .int i7])), (e0, .inl (k0, 60, .inl f0)), (e2, .inl (k2, 60, .inl g0))]) [0, 1, 2] (by decide) rfl
              have hK9 := hK.sub (tys' := [(k0, .int), (k2, .char)]) [0, 1] rfl
              exact W.iret (v := nI nn) hx hb hr (fun t ht hW => ⟨⟨nI nn, nI nn, rfl, rfl, ⟨nI nn, cl, ol, i4, i5, i6, i7, f0, g0, rfl, hcl, hol, by rw [ht]; exact hP9, va_K.moved hW.alike hK9, hD9⟩⟩, hS.F ht⟩) hS.2.2 dX8_read_120
        · have hn_c_236 := q_nle nn 60 c_236 rfl rfl (by omega) (by omega)
          refine lv_bipush (v := 60) hx hb dX8_read_102 (by decide) ?_
          have hP9 := hP.sub (ws' := [(h0, .inr (8, [.ref e0, .int (nI cl), .ref e2, .int (nI ol), .int i4, .int i5, .int i6, .int i7])), (e0, .inl (k0, 60, .inl f0)), (e2, .inl (k2, 60, .inl g0))]) [0, 1, 2] rfl
          have hD9 := hD.sub (ws' := [(h0, .inr (8, [.ref e0, .int (nI cl), .ref e2, .int (nI ol), .int i4, .int i5, .int i6, .int i7])), (e0, .inl (k0, 60, .inl f0)), (e2, .inl (k2, 60, .inl g0))]) [0, 1, 2] (by decide) rfl
          have hK9 := hK.sub (tys' := [(k0, .int), (k2, .char)]) [0, 1] rfl
          exact W.iret (v := 60) hx hb hr (fun t ht hW => ⟨⟨60, 60, rfl, rfl, ⟨60, cl, ol, i4, i5, i6, i7, f0, g0, rfl, hcl, hol, by rw [ht]; exact hP9, va_K.moved hW.alike hK9, hD9⟩⟩, hS.F ht⟩) hS.2.2 dX8_read_104
      · have hn_c_235 := q_nle nn j c_235 rfl rfl (by omega) (by omega)
        refine lv_aload_n hx hb dX8_read_53 rfl (lv_at hl 2 rfl) ?_
        refine va_get (D := (dC, dI)) (ci := 8) (v := .int i7) (C := RX8) (T := TX8) (N := 8) hx hb hts (fun _ hh => (List.mem_cons_of_mem _ (List.mem_append_right _ (List.mem_append_left _ hh)))) hown hK hP 0 rfl rfl 7 (by decide) (hts (.fieldLink RX8 35 "TypingPool$Reader" "wantsThing" "Z") (List.mem_cons_of_mem _ (List.mem_append_left _ (List.mem_of_getElem? (i := 5) rfl)))) (fun _ h9 => h9) rfl dX8_read_54 ?_
        refine lv_if_eq (tgt := 72) hx hb dX8_read_57 (by decide) (fun c_251 => ?_) (fun c_251 => ?_)
        · refine lv_aload_n hx hb dX8_read_72 rfl (lv_at hl 2 rfl) ?_
          refine lv_aload_n hx hb dX8_read_73 rfl (lv_at hl 3 rfl) ?_
          refine lv_iload hx hb dX8_read_74 (lv_at hl 0 rfl) ?_
          refine va_cald hx hb hK hP 3 2 rfl rfl (vp_in_nI (n := j) (by omega) (by omega)) dX8_read_76 ?_
          refine lv_topi (fun x_252 ex_252 => ?_)
          have hPc := hP.sub (ws' := [(h0, .inr (8, [.ref e0, .int (nI cl), .ref e2, .int (nI ol), .int i4, .int i5, .int i6, .int i7])), (e0, .inl (k0, 60, .inl f0)), (e2, .inl (k2, 60, .inl g0))]) [0, 1, 2] rfl
          have hDc := hD.sub (ws' := [(h0, .inr (8, [.ref e0, .int (nI cl), .ref e2, .int (nI ol), .int i4, .int i5, .int i6, .int i7])), (e0, .inl (k0, 60, .inl f0)), (e2, .inl (k2, 60, .inl g0))]) [0, 1, 2] (by decide) rfl
          have hKc := hK.sub (tys' := [(k0, .int), (k2, .char)]) [0, 1] rfl
          have hFc := va_free (wc := [(h0, .inr (8, [.ref e0, .int (nI cl), .ref e2, .int (nI ol), .int i4, .int i5, .int i6, .int i7])), (e0, .inl (k0, 60, .inl f0)), (e2, .inl (k2, 60, .inl g0))]) hD hS hA [0, 1, 2] rfl
          refine va_calli (va_runV (As := [.int x_252]) (rest := []) ⟨hx, hb, hml, hown, hts⟩ (r_followsThing l dC dI ad av H.size h0 e0 e2 cl ol k0 k2 f0 g0 i4 i5 i6 i7 x_252 hcl hol) (cwV 1 hts (gi_4 (List.mem_cons_of_mem _ (List.mem_append_left _ (List.mem_of_getElem? (i := 14) rfl))) (List.mem_cons_of_mem _ (List.mem_append_left _ (List.mem_of_getElem? (i := 15) rfl))) (List.mem_cons_of_mem _ (List.mem_append_left _ (List.mem_of_getElem? (i := 16) rfl))) (List.mem_cons_of_mem _ (List.mem_append_left _ (List.mem_of_getElem? (i := 13) rfl))) (fun _ hh => (List.mem_cons_of_mem _ (List.mem_append_right _ (List.mem_append_right _ (List.mem_append_right _ (List.mem_append_left _ hh)))))) gd_r_followsThing) rfl rfl rfl (by decide +kernel) ⟨Nat.le_of_ble_eq_true rfl, Nat.le_of_ble_eq_true rfl⟩) ⟨pr_blind, va_recv hKc hPc (ci := 8) (q0 := 0) rfl rfl, pr_use hPc hKc hDc hFc hS hM⟩ rfl rfl hl.1 rfl (lv_room (Nat.le_of_ble_eq_true rfl)) dX8_read_77 ⟨Nat.le_of_ble_eq_true rfl, Nat.le_of_ble_eq_true rfl⟩) hS (fun q _ h => hFc q h) hFc (fun r_253 u t H locs ht hvm hw hB hz1 hk1 hS => ?_)
          refine W.widen (k := 0) (n := 0) (Nat.le_of_ble_eq_true rfl) (Nat.le_of_ble_eq_true rfl) ?_
          subst hw
          rcases hB with ⟨cl_254, ol_255, j_256, j_257, j_258, j_259, f_260, g_261, hre_262, hf_263, hf_264, hP1, hK1, hD1⟩ | ⟨cl_265, ol_266, j_267, j_268, j_269, j_270, f_271, g_272, hre_273, hf_274, hf_275, hP1, hK1, hD1⟩
          · refine lq_top (v := 1) hre_262 ?_
            rw [ht] at hP1
            have hK1 := va_K.moved hvm.symm hK1
            obtain ⟨hP, hD⟩ := va_join (wr := [(sg, .inl (ks, nn, .inl fs))]) (w1 := [(h0, .inr (8, [.ref e0, .int (nI cl_254), .ref e2, .int (nI ol_255), .int j_256, .int j_257, .int j_258, .int j_259])), (e0, .inl (k0, 60, .inl f_260)), (e2, .inl (k2, 60, .inl g_261))]) hP hD [0, 1, 2] [3] rfl rfl (by decide) (by decide) hk1 hFc hP1 hD1
            have hK := (hK.sub (tys' := [(ks, .char)]) [2] rfl).app hK1
            have hP : va_P (dC, dI) vwCl [(sg, .inl (ks, nn, .inl fs)), (h0, .inr (8, [.ref e0, .int (nI cl_254), .ref e2, .int (nI ol_255), .int j_256, .int j_257, .int j_258, .int j_259])), (e0, .inl (k0, 60, .inl f_260)), (e2, .inl (k2, 60, .inl g_261))] H := hP
            have hD : va_D A [(sg, .inl (ks, nn, .inl fs)), (h0, .inr (8, [.ref e0, .int (nI cl_254), .ref e2, .int (nI ol_255), .int j_256, .int j_257, .int j_258, .int j_259])), (e0, .inl (k0, 60, .inl f_260)), (e2, .inl (k2, 60, .inl g_261))] := hD
            have hK : va_K (dC, dI) vwCl [(ks, .char), (k0, .int), (k2, .char)] s := hK
            refine lv_istore (lv' := [(6, .int 1), (5, .int (nI j)), (4, .int (nI nn)), (0, .ref h0), (1, .ref sg), (2, .int (nI nn)), (3, .ref (ad i))]) hx hb dX8_read_80 hl (by decide) rfl (fun ls hl => ?_)
            refine lv_iload hx hb dX8_read_82 (lv_at hl 0 rfl) ?_
            refine lv_if_ne (tgt := 90) hx hb dX8_read_84 (by decide) (fun c_276 => ?_) (fun c_276 => absurd c_276 (by decide))
            refine lv_iinc (v := nI (j + 1)) (lv' := [(5, .int (nI (j + 1))), (6, .int 1), (4, .int (nI nn)), (0, .ref h0), (1, .ref sg), (2, .int (nI nn)), (3, .ref (ad i))]) hx hb dX8_read_90 hl (k := 1) rfl (nI_1 j) (by decide) rfl (fun ls hl => ?_)
            refine lv_goto (tgt := 46) hx hb dX8_read_93 (by decide) ?_
            exact ih_46  (j + 1) cl_254 ol_255 j_256 j_257 j_258 j_259 f_260 g_261 H _ ls (by omega) (by omega) hf_263 hf_264 (hK.sub (tys' := [(k0, .int), (k2, .char), (ks, .char)]) [1, 2, 0] rfl) (hP.sub (ws' := [(h0, .inr (8, [.ref e0, .int (nI cl_254), .ref e2, .int (nI ol_255), .int j_256, .int j_257, .int j_258, .int j_259])), (e0, .inl (k0, 60, .inl f_260)), (e2, .inl (k2, 60, .inl g_261)), (sg, .inl (ks, nn, .inl fs))]) [1, 2, 3, 0] rfl) (hD.sub (ws' := [(h0, .inr (8, [.ref e0, .int (nI cl_254), .ref e2, .int (nI ol_255), .int j_256, .int j_257, .int j_258, .int j_259])), (e0, .inl (k0, 60, .inl f_260)), (e2, .inl (k2, 60, .inl g_261)), (sg, .inl (ks, nn, .inl fs))]) [1, 2, 3, 0] (by decide) rfl) hS (lv_sub hl [0, 2, 3, 4, 5, 6] rfl)
          · refine lq_top (v := 0) hre_273 ?_
            rw [ht] at hP1
            have hK1 := va_K.moved hvm.symm hK1
            obtain ⟨hP, hD⟩ := va_join (wr := [(sg, .inl (ks, nn, .inl fs))]) (w1 := [(h0, .inr (8, [.ref e0, .int (nI cl_265), .ref e2, .int (nI ol_266), .int j_267, .int j_268, .int j_269, .int j_270])), (e0, .inl (k0, 60, .inl f_271)), (e2, .inl (k2, 60, .inl g_272))]) hP hD [0, 1, 2] [3] rfl rfl (by decide) (by decide) hk1 hFc hP1 hD1
            have hK := (hK.sub (tys' := [(ks, .char)]) [2] rfl).app hK1
            have hP : va_P (dC, dI) vwCl [(sg, .inl (ks, nn, .inl fs)), (h0, .inr (8, [.ref e0, .int (nI cl_265), .ref e2, .int (nI ol_266), .int j_267, .int j_268, .int j_269, .int j_270])), (e0, .inl (k0, 60, .inl f_271)), (e2, .inl (k2, 60, .inl g_272))] H := hP
            have hD : va_D A [(sg, .inl (ks, nn, .inl fs)), (h0, .inr (8, [.ref e0, .int (nI cl_265), .ref e2, .int (nI ol_266), .int j_267, .int j_268, .int j_269, .int j_270])), (e0, .inl (k0, 60, .inl f_271)), (e2, .inl (k2, 60, .inl g_272))] := hD
            have hK : va_K (dC, dI) vwCl [(ks, .char), (k0, .int), (k2, .char)] s := hK
            refine lv_istore (lv' := [(6, .int 0), (5, .int (nI j)), (4, .int (nI nn)), (0, .ref h0), (1, .ref sg), (2, .int (nI nn)), (3, .ref (ad i))]) hx hb dX8_read_80 hl (by decide) rfl (fun ls hl => ?_)
            refine lv_iload hx hb dX8_read_82 (lv_at hl 0 rfl) ?_
            refine lv_if_ne (tgt := 90) hx hb dX8_read_84 (by decide) (fun c_277 => absurd c_277 (fun z => z (by decide))) (fun c_277 => ?_)
            refine lv_iload hx hb dX8_read_87 (lv_at hl 1 rfl) ?_
            have hP9 := hP.sub (ws' := [(h0, .inr (8, [.ref e0, .int (nI cl_265), .ref e2, .int (nI ol_266), .int j_267, .int j_268, .int j_269, .int j_270])), (e0, .inl (k0, 60, .inl f_271)), (e2, .inl (k2, 60, .inl g_272))]) [1, 2, 3] rfl
            have hD9 := hD.sub (ws' := [(h0, .inr (8, [.ref e0, .int (nI cl_265), .ref e2, .int (nI ol_266), .int j_267, .int j_268, .int j_269, .int j_270])), (e0, .inl (k0, 60, .inl f_271)), (e2, .inl (k2, 60, .inl g_272))]) [1, 2, 3] (by decide) rfl
            have hK9 := hK.sub (tys' := [(k0, .int), (k2, .char)]) [1, 2] rfl
            exact W.iret (v := nI j) hx hb hr (fun t ht hW => ⟨⟨nI j, nI j, rfl, rfl, ⟨nI j, cl_265, ol_266, j_267, j_268, j_269, j_270, f_271, g_272, rfl, hf_274, hf_275, by rw [ht]; exact hP9, va_K.moved hW.alike hK9, hD9⟩⟩, hS.F ht⟩) hS.2.2 dX8_read_89
        · refine lv_aload_n hx hb dX8_read_60 rfl (lv_at hl 2 rfl) ?_
          refine lv_aload_n hx hb dX8_read_61 rfl (lv_at hl 3 rfl) ?_
          refine lv_iload hx hb dX8_read_62 (lv_at hl 0 rfl) ?_
          refine va_cald hx hb hK hP 3 2 rfl rfl (vp_in_nI (n := j) (by omega) (by omega)) dX8_read_64 ?_
          refine lv_topi (fun x_278 ex_278 => ?_)
          refine lv_aload_n hx hb dX8_read_65 rfl (lv_at hl 5 rfl) ?_
          have hPc := hP.sub (ws' := [(h0, .inr (8, [.ref e0, .int (nI cl), .ref e2, .int (nI ol), .int i4, .int i5, .int i6, .int i7])), (e0, .inl (k0, 60, .inl f0)), (e2, .inl (k2, 60, .inl g0))]) [0, 1, 2] rfl
          have hDc := hD.sub (ws' := [(h0, .inr (8, [.ref e0, .int (nI cl), .ref e2, .int (nI ol), .int i4, .int i5, .int i6, .int i7])), (e0, .inl (k0, 60, .inl f0)), (e2, .inl (k2, 60, .inl g0))]) [0, 1, 2] (by decide) rfl
          have hKc := hK.sub (tys' := [(k0, .int), (k2, .char)]) [0, 1] rfl
          have hFc := va_free (wc := [(h0, .inr (8, [.ref e0, .int (nI cl), .ref e2, .int (nI ol), .int i4, .int i5, .int i6, .int i7])), (e0, .inl (k0, 60, .inl f0)), (e2, .inl (k2, 60, .inl g0))]) hD hS hA [0, 1, 2] rfl
          refine va_calli (va_runV (As := [.int x_278, .ref (ad i)]) (rest := []) ⟨hx, hb, hml, hown, hts⟩ (r_beginsThing l dC dI ad av H.size h0 e0 e2 cl ol k0 k2 f0 g0 i4 i5 i6 i7 i x_278 hcl hol (by omega)) (cwV 2 hts (gi_4 (List.mem_cons_of_mem _ (List.mem_append_left _ (List.mem_of_getElem? (i := 17) rfl))) (List.mem_cons_of_mem _ (List.mem_append_left _ (List.mem_of_getElem? (i := 18) rfl))) (List.mem_cons_of_mem _ (List.mem_append_left _ (List.mem_of_getElem? (i := 19) rfl))) (List.mem_cons_of_mem _ (List.mem_append_left _ (List.mem_of_getElem? (i := 13) rfl))) (fun _ hh => (List.mem_cons_of_mem _ (List.mem_append_right _ (List.mem_append_right _ (List.mem_append_right _ (List.mem_append_right _ (List.mem_append_left _ hh))))))) gd_r_beginsThing) rfl rfl rfl (by decide +kernel) ⟨Nat.le_of_ble_eq_true rfl, Nat.le_of_ble_eq_true rfl⟩) ⟨pr_blind, va_recv hKc hPc (ci := 8) (q0 := 0) rfl rfl, pr_use hPc hKc hDc hFc hS hM⟩ rfl rfl hl.1 rfl (lv_room (Nat.le_of_ble_eq_true rfl)) dX8_read_66 ⟨Nat.le_of_ble_eq_true rfl, Nat.le_of_ble_eq_true rfl⟩) hS (fun q _ h => hFc q h) hFc (fun r_279 u t H locs ht hvm hw hB hz1 hk1 hS => ?_)
          refine W.widen (k := 0) (n := 0) (Nat.le_of_ble_eq_true rfl) (Nat.le_of_ble_eq_true rfl) ?_
          subst hw
          rcases hB with ⟨cl_280, ol_281, j_282, j_283, j_284, j_285, f_286, g_287, hre_288, hf_289, hf_290, hP1, hK1, hD1⟩ | ⟨cl_291, ol_292, j_293, j_294, j_295, j_296, f_297, g_298, hre_299, hf_300, hf_301, hP1, hK1, hD1⟩
          · refine lq_top (v := 1) hre_288 ?_
            rw [ht] at hP1
            have hK1 := va_K.moved hvm.symm hK1
            obtain ⟨hP, hD⟩ := va_join (wr := [(sg, .inl (ks, nn, .inl fs))]) (w1 := [(h0, .inr (8, [.ref e0, .int (nI cl_280), .ref e2, .int (nI ol_281), .int j_282, .int j_283, .int j_284, .int j_285])), (e0, .inl (k0, 60, .inl f_286)), (e2, .inl (k2, 60, .inl g_287))]) hP hD [0, 1, 2] [3] rfl rfl (by decide) (by decide) hk1 hFc hP1 hD1
            have hK := (hK.sub (tys' := [(ks, .char)]) [2] rfl).app hK1
            have hP : va_P (dC, dI) vwCl [(sg, .inl (ks, nn, .inl fs)), (h0, .inr (8, [.ref e0, .int (nI cl_280), .ref e2, .int (nI ol_281), .int j_282, .int j_283, .int j_284, .int j_285])), (e0, .inl (k0, 60, .inl f_286)), (e2, .inl (k2, 60, .inl g_287))] H := hP
            have hD : va_D A [(sg, .inl (ks, nn, .inl fs)), (h0, .inr (8, [.ref e0, .int (nI cl_280), .ref e2, .int (nI ol_281), .int j_282, .int j_283, .int j_284, .int j_285])), (e0, .inl (k0, 60, .inl f_286)), (e2, .inl (k2, 60, .inl g_287))] := hD
            have hK : va_K (dC, dI) vwCl [(ks, .char), (k0, .int), (k2, .char)] s := hK
            refine lv_goto (tgt := 80) hx hb dX8_read_69 (by decide) ?_
            refine lv_istore (lv' := [(6, .int 1), (5, .int (nI j)), (4, .int (nI nn)), (0, .ref h0), (1, .ref sg), (2, .int (nI nn)), (3, .ref (ad i))]) hx hb dX8_read_80 hl (by decide) rfl (fun ls hl => ?_)
            refine lv_iload hx hb dX8_read_82 (lv_at hl 0 rfl) ?_
            refine lv_if_ne (tgt := 90) hx hb dX8_read_84 (by decide) (fun c_302 => ?_) (fun c_302 => absurd c_302 (by decide))
            refine lv_iinc (v := nI (j + 1)) (lv' := [(5, .int (nI (j + 1))), (6, .int 1), (4, .int (nI nn)), (0, .ref h0), (1, .ref sg), (2, .int (nI nn)), (3, .ref (ad i))]) hx hb dX8_read_90 hl (k := 1) rfl (nI_1 j) (by decide) rfl (fun ls hl => ?_)
            refine lv_goto (tgt := 46) hx hb dX8_read_93 (by decide) ?_
            exact ih_46  (j + 1) cl_280 ol_281 j_282 j_283 j_284 j_285 f_286 g_287 H _ ls (by omega) (by omega) hf_289 hf_290 (hK.sub (tys' := [(k0, .int), (k2, .char), (ks, .char)]) [1, 2, 0] rfl) (hP.sub (ws' := [(h0, .inr (8, [.ref e0, .int (nI cl_280), .ref e2, .int (nI ol_281), .int j_282, .int j_283, .int j_284, .int j_285])), (e0, .inl (k0, 60, .inl f_286)), (e2, .inl (k2, 60, .inl g_287)), (sg, .inl (ks, nn, .inl fs))]) [1, 2, 3, 0] rfl) (hD.sub (ws' := [(h0, .inr (8, [.ref e0, .int (nI cl_280), .ref e2, .int (nI ol_281), .int j_282, .int j_283, .int j_284, .int j_285])), (e0, .inl (k0, 60, .inl f_286)), (e2, .inl (k2, 60, .inl g_287)), (sg, .inl (ks, nn, .inl fs))]) [1, 2, 3, 0] (by decide) rfl) hS (lv_sub hl [0, 2, 3, 4, 5, 6] rfl)
          · refine lq_top (v := 0) hre_299 ?_
            rw [ht] at hP1
            have hK1 := va_K.moved hvm.symm hK1
            obtain ⟨hP, hD⟩ := va_join (wr := [(sg, .inl (ks, nn, .inl fs))]) (w1 := [(h0, .inr (8, [.ref e0, .int (nI cl_291), .ref e2, .int (nI ol_292), .int j_293, .int j_294, .int j_295, .int j_296])), (e0, .inl (k0, 60, .inl f_297)), (e2, .inl (k2, 60, .inl g_298))]) hP hD [0, 1, 2] [3] rfl rfl (by decide) (by decide) hk1 hFc hP1 hD1
            have hK := (hK.sub (tys' := [(ks, .char)]) [2] rfl).app hK1
            have hP : va_P (dC, dI) vwCl [(sg, .inl (ks, nn, .inl fs)), (h0, .inr (8, [.ref e0, .int (nI cl_291), .ref e2, .int (nI ol_292), .int j_293, .int j_294, .int j_295, .int j_296])), (e0, .inl (k0, 60, .inl f_297)), (e2, .inl (k2, 60, .inl g_298))] H := hP
            have hD : va_D A [(sg, .inl (ks, nn, .inl fs)), (h0, .inr (8, [.ref e0, .int (nI cl_291), .ref e2, .int (nI ol_292), .int j_293, .int j_294, .int j_295, .int j_296])), (e0, .inl (k0, 60, .inl f_297)), (e2, .inl (k2, 60, .inl g_298))] := hD
            have hK : va_K (dC, dI) vwCl [(ks, .char), (k0, .int), (k2, .char)] s := hK
            refine lv_goto (tgt := 80) hx hb dX8_read_69 (by decide) ?_
            refine lv_istore (lv' := [(6, .int 0), (5, .int (nI j)), (4, .int (nI nn)), (0, .ref h0), (1, .ref sg), (2, .int (nI nn)), (3, .ref (ad i))]) hx hb dX8_read_80 hl (by decide) rfl (fun ls hl => ?_)
            refine lv_iload hx hb dX8_read_82 (lv_at hl 0 rfl) ?_
            refine lv_if_ne (tgt := 90) hx hb dX8_read_84 (by decide) (fun c_303 => absurd c_303 (fun z => z (by decide))) (fun c_303 => ?_)
            refine lv_iload hx hb dX8_read_87 (lv_at hl 1 rfl) ?_
            have hP9 := hP.sub (ws' := [(h0, .inr (8, [.ref e0, .int (nI cl_291), .ref e2, .int (nI ol_292), .int j_293, .int j_294, .int j_295, .int j_296])), (e0, .inl (k0, 60, .inl f_297)), (e2, .inl (k2, 60, .inl g_298))]) [1, 2, 3] rfl
            have hD9 := hD.sub (ws' := [(h0, .inr (8, [.ref e0, .int (nI cl_291), .ref e2, .int (nI ol_292), .int j_293, .int j_294, .int j_295, .int j_296])), (e0, .inl (k0, 60, .inl f_297)), (e2, .inl (k2, 60, .inl g_298))]) [1, 2, 3] (by decide) rfl
            have hK9 := hK.sub (tys' := [(k0, .int), (k2, .char)]) [1, 2] rfl
            exact W.iret (v := nI j) hx hb hr (fun t ht hW => ⟨⟨nI j, nI j, rfl, rfl, ⟨nI j, cl_291, ol_292, j_293, j_294, j_295, j_296, f_297, g_298, rfl, hf_300, hf_301, by rw [ht]; exact hP9, va_K.moved hW.alike hK9, hD9⟩⟩, hS.F ht⟩) hS.2.2 dX8_read_89
  exact loop_46 ((nn - 0) + 1) 0 0 0 0 0 0 1 f0 g0 H _ ls (by omega) (by omega) (by omega) (by omega) (hK.sub (tys' := [(k0, .int), (k2, .char), (ks, .char)]) [0, 1, 2] rfl) (hP.sub (ws' := [(h0, .inr (8, [.ref e0, .int (nI 0), .ref e2, .int (nI 0), .int 0, .int 0, .int 0, .int 1])), (e0, .inl (k0, 60, .inl f0)), (e2, .inl (k2, 60, .inl g0)), (sg, .inl (ks, nn, .inl fs))]) [0, 1, 2, 3] rfl) (hD.sub (ws' := [(h0, .inr (8, [.ref e0, .int (nI 0), .ref e2, .int (nI 0), .int 0, .int 0, .int 0, .int 1])), (e0, .inl (k0, 60, .inl f0)), (e2, .inl (k2, 60, .inl g0)), (sg, .inl (ks, nn, .inl fs))]) [0, 1, 2, 3] (by decide) rfl) hS (lv_sub hl [0, 1, 2, 3, 4, 5] rfl)
def wo_r_codeRead : List Cond := [.fieldLink RX8 11 "TypingPool$Reader" "code" "[I", .fieldLink RX8 19 "TypingPool$Reader" "codeLength" "I", .methodLink RX8 57 yJ7_copyOf_59c91, .static yJ7_copyOf_59c91, .initialized RJ7]
def wm_r_codeRead : List Cond := .code yX8_codeRead cX8_codeRead 1 (some (.array .int)) :: (wo_r_codeRead ++ (wsX80 ++ (wm_j_copyOf ++ ([] : List Cond))))
theorem gd_r_codeRead : ∀ w ∈ wm_r_codeRead, goodWord w = true := gd_c rfl (gd_a (by decide) (gd_a gd_wsX80 (gd_a gd_j_copyOf gd_nil)))
set_option maxRecDepth 20000 in
theorem im_r_codeRead : ∀ w ∈ wm_r_codeRead, w ∈ lw_tbl := im_c (in_r [.code yX8_codeRead cX8_codeRead 1 (some (.array .int))] [364] (by decide +kernel)) (in_app (in_r wo_r_codeRead [170, 171, 365, 366, 81] (by decide +kernel)) (in_app im_wsX80 (in_app im_j_copyOf im_nil)))
set_option maxHeartbeats 4000000 in
set_option maxRecDepth 100000 in
theorem r_codeRead (l : Launch) (dC : Nat → ClassId) (dI : Nat → Nat → Nat) (ad av : Nat → Nat) (sz : Nat) (h0 : Nat) (e0 : Nat) (e2 : Nat) (cl : Nat) (ol : Nat) (k0 : ClassId) (k2 : ClassId) (f0 : Nat → Int32) (g0 : Nat → Int32) (i4 : Int32) (i5 : Int32) (i6 : Int32) (i7 : Int32) (hcl : cl ≤ 60) (hol : ol ≤ 60) : Met l yX8_codeRead wm_r_codeRead ({ frames := 5, cells := 1, slots := 60, locals := 160 }) (pr_ ad av (dC, dI) sz [.ref h0] [(h0, .inr (8, [.ref e0, .int (nI cl), .ref e2, .int (nI ol), .int i4, .int i5, .int i6, .int i7])), (e0, .inl (k0, 60, .inl f0)), (e2, .inl (k2, 60, .inl g0))] [(k0, .int), (k2, .char)]) (va_Qr (fun (_ : Unit) => True) (fun (_ : Unit) (a : Nat) (t : State) => (∃ (q1 : Nat), ∃ (nn : Nat), ∃ (k1 : ClassId), ∃ (f1 : Nat → Int32), a = q1 ∧ po_ (dC, dI) (va_A [(h0, .inr (8, [.ref e0, .int (nI cl), .ref e2, .int (nI ol), .int i4, .int i5, .int i6, .int i7])), (e0, .inl (k0, 60, .inl f0)), (e2, .inl (k2, 60, .inl g0))] sz) [(h0, .inr (8, [.ref e0, .int (nI cl), .ref e2, .int (nI ol), .int i4, .int i5, .int i6, .int i7])), (e0, .inl (k0, 60, .inl f0)), (e2, .inl (k2, 60, .inl g0)), (q1, .inl (k1, nn, .inl f1))] [(k0, .int), (k2, .char), (k1, .int)] t)) (va_A [(h0, .inr (8, [.ref e0, .int (nI cl), .ref e2, .int (nI ol), .int i4, .int i5, .int i6, .int i7])), (e0, .inl (k0, 60, .inl f0)), (e2, .inl (k2, 60, .inl g0))] sz)) 1 60 (va_A [(h0, .inr (8, [.ref e0, .int (nI cl), .ref e2, .int (nI ol), .int i4, .int i5, .int i6, .int i7])), (e0, .inl (k0, 60, .inl f0)), (e2, .inl (k2, 60, .inl g0))] sz) := by
  refine Met.ofW (cc := cX8_codeRead) (maxL := 1) (ret := (some (.array .int))) (by decide) rfl ?_
  intro p e s m args below meth c s₁ B hml hv
  obtain ⟨rfl, hsz, hP, hK, hD0, hM⟩ := hv
  have hx := B.exec
  have hb := B.bytes
  have hr := B.returns
  have hts := atoms_spec (ws := wm_r_codeRead) B.pre
  have hown : s.vm.findClass RX8 = some m.cls := findClass_of_methodNamed B.named
  have hlocks := B.notSynchronized
  subst hsz
  have hD := hD0.self (sz := s.heap.size)
  generalize hAe : va_A [(h0, .inr (8, [.ref e0, .int (nI cl), .ref e2, .int (nI ol), .int i4, .int i5, .int i6, .int i7])), (e0, .inl (k0, 60, .inl f0)), (e2, .inl (k2, 60, .inl g0))] s.heap.size = A at hD hM ⊢
  have hA : ∀ q : Nat, s.heap.size ≤ q → A q := fun q h => by rw [← hAe]; exact Or.inr h
  have hS : va_S A s.heap s.heap [] := va_S.rf
  have hP : va_P (dC, dI) vwCl [(h0, .inr (8, [.ref e0, .int (nI cl), .ref e2, .int (nI ol), .int i4, .int i5, .int i6, .int i7])), (e0, .inl (k0, 60, .inl f0)), (e2, .inl (k2, 60, .inl g0))] s.heap := hP
  have hl := lv_entry ([.ref h0]) (n := 1) (Nat.le_of_ble_eq_true rfl)
  rw [lg_entry_eq]
  generalize (lg_sl ([.ref h0]) ++ List.replicate (1 - (lg_sl ([.ref h0])).length) Slot.unset).toArray = ls at hl ⊢
  have hl : lv_has ls 1 [(0, .ref h0)] := hl
  refine lv_aload_n hx hb dX8_codeRead_0 rfl (lv_at hl 0 rfl) ?_
  refine va_get (D := (dC, dI)) (ci := 8) (v := .ref e0) (C := RX8) (T := TX8) (N := 8) hx hb hts (fun _ hh => (List.mem_cons_of_mem _ (List.mem_append_right _ (List.mem_append_left _ hh)))) hown hK hP 0 rfl rfl 0 (by decide) (hts (.fieldLink RX8 11 "TypingPool$Reader" "code" "[I") (List.mem_cons_of_mem _ (List.mem_append_left _ (List.mem_of_getElem? (i := 0) rfl)))) (fun _ h9 => h9) rfl dX8_codeRead_1 ?_
  refine lv_aload_n hx hb dX8_codeRead_4 rfl (lv_at hl 0 rfl) ?_
  refine va_get (D := (dC, dI)) (ci := 8) (v := .int (nI cl)) (C := RX8) (T := TX8) (N := 8) hx hb hts (fun _ hh => (List.mem_cons_of_mem _ (List.mem_append_right _ (List.mem_append_left _ hh)))) hown hK hP 0 rfl rfl 1 (by decide) (hts (.fieldLink RX8 19 "TypingPool$Reader" "codeLength" "I") (List.mem_cons_of_mem _ (List.mem_append_left _ (List.mem_of_getElem? (i := 1) rfl)))) (fun _ h9 => h9) rfl dX8_codeRead_5 ?_
  have hPc := hP.sub (ws' := [(e0, .inl (k0, 60, .inl f0))]) [1] rfl
  have hDc := hD.sub (ws' := [(e0, .inl (k0, 60, .inl f0))]) [1] (by decide) rfl
  have hKc := hK.sub (tys' := [(k0, .int)]) [0] rfl
  have hFc := va_free (wc := [(e0, .inl (k0, 60, .inl f0))]) hD hS hA [1] rfl
  refine va_callr (va_runS (As := [.ref e0, .int (nI cl)]) (rest := []) ⟨hx, hb, hml, hown, hts⟩ (j_copyOf l dC dI ad av s.heap.size e0 cl k0 f0 (by omega)) (va_cwS 2 hts (gi_3 (List.mem_cons_of_mem _ (List.mem_append_left _ (List.mem_of_getElem? (i := 2) rfl))) (List.mem_cons_of_mem _ (List.mem_append_left _ (List.mem_of_getElem? (i := 3) rfl))) (List.mem_cons_of_mem _ (List.mem_append_left _ (List.mem_of_getElem? (i := 4) rfl))) (fun _ hh => (List.mem_cons_of_mem _ (List.mem_append_right _ (List.mem_append_right _ (List.mem_append_left _ hh))))) gd_j_copyOf) rfl rfl rfl (by decide +kernel) ⟨Nat.le_of_ble_eq_true rfl, Nat.le_of_ble_eq_true rfl⟩) ⟨pr_blind, pr_use hPc hKc hDc hFc hS hM⟩ rfl rfl hl.1 rfl (lv_room (Nat.le_of_ble_eq_true rfl)) dX8_codeRead_8 ⟨Nat.le_of_ble_eq_true rfl, Nat.le_of_ble_eq_true rfl⟩) hS (fun q _ h => hFc q h) hFc (fun u r_304 t H locs ht hvm hw hB hz1 hk1 hS => ?_)
  refine W.widen (k := 1) (n := 60) (Nat.le_of_ble_eq_true rfl) (Nat.le_of_ble_eq_true rfl) ?_
  obtain ⟨q_305, nn_306, k_307, f_308, hre_309, hP1, hK1, hD1⟩ := hB
  rw [hre_309]
  rw [ht] at hP1
  have hK1 := va_K.moved hvm.symm hK1
  obtain ⟨hP, hD⟩ := va_join (wr := [(h0, .inr (8, [.ref e0, .int (nI cl), .ref e2, .int (nI ol), .int i4, .int i5, .int i6, .int i7])), (e2, .inl (k2, 60, .inl g0))]) (w1 := [(e0, .inl (k0, 60, .inl f0)), (q_305, .inl (k_307, nn_306, .inl f_308))]) hP hD [1] [0, 2] rfl rfl (by decide) (by decide) hk1 hFc hP1 hD1
  have hK := (hK.sub (tys' := [(k2, .char)]) [1] rfl).app hK1
  have hP : va_P (dC, dI) vwCl [(h0, .inr (8, [.ref e0, .int (nI cl), .ref e2, .int (nI ol), .int i4, .int i5, .int i6, .int i7])), (e2, .inl (k2, 60, .inl g0)), (e0, .inl (k0, 60, .inl f0)), (q_305, .inl (k_307, nn_306, .inl f_308))] H := hP
  have hD : va_D A [(h0, .inr (8, [.ref e0, .int (nI cl), .ref e2, .int (nI ol), .int i4, .int i5, .int i6, .int i7])), (e2, .inl (k2, 60, .inl g0)), (e0, .inl (k0, 60, .inl f0)), (q_305, .inl (k_307, nn_306, .inl f_308))] := hD
  have hK : va_K (dC, dI) vwCl [(k2, .char), (k0, .int), (k_307, .int)] s := hK
  have hP9 := hP.sub (ws' := [(h0, .inr (8, [.ref e0, .int (nI cl), .ref e2, .int (nI ol), .int i4, .int i5, .int i6, .int i7])), (e0, .inl (k0, 60, .inl f0)), (e2, .inl (k2, 60, .inl g0)), (q_305, .inl (k_307, nn_306, .inl f_308))]) [0, 2, 1, 3] rfl
  have hD9 := hD.sub (ws' := [(h0, .inr (8, [.ref e0, .int (nI cl), .ref e2, .int (nI ol), .int i4, .int i5, .int i6, .int i7])), (e0, .inl (k0, 60, .inl f0)), (e2, .inl (k2, 60, .inl g0)), (q_305, .inl (k_307, nn_306, .inl f_308))]) [0, 2, 1, 3] (by decide) rfl
  have hK9 := hK.sub (tys' := [(k0, .int), (k2, .char), (k_307, .int)]) [1, 0, 2] rfl
  exact W.aret (v := .ref q_305) hx hb hr (by first | exact Or.inl ⟨_, rfl⟩ | exact Or.inr ⟨_, rfl⟩) (Or.inr ⟨_, rfl⟩) (fun t ht hW => ⟨⟨(), q_305, rfl, trivial, ⟨q_305, nn_306, k_307, f_308, rfl, by rw [ht]; exact hP9, va_K.moved hW.alike hK9, hD9⟩⟩, hS.F ht⟩) hS.2.2 dX8_codeRead_11
