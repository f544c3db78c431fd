def wo_t_of : List Cond := [.fieldLink RX11 10 "TypingPool" "book" "LTypingPool$Book;", .methodLink RX11 95 yX1_hasHand, .instanceMethod yX1_hasHand, .selects RX1 yX1_hasHand yX1_hasHand, .initialized RX1, .classLink RX11 171 "java/util/NoSuchElementException", .initialized "java/util/NoSuchElementException"]
def wm_t_of : List Cond := .code yX11_of cX11_of 3 (some .int) :: (wo_t_of ++ (wsX110 ++ (wm_c_hasHand0 ++ (ux_at ++ ([] : List Cond)))))
theorem gd_t_of : ∀ w ∈ wm_t_of, goodWord w = true := gd_c rfl (gd_a (by decide) (gd_a gd_wsX110 (gd_a gd_c_hasHand0 (gd_a gd_ux_at gd_nil))))
set_option maxRecDepth 20000 in
theorem im_t_of : ∀ w ∈ wm_t_of, w ∈ lw_tbl := im_c (in_r [.code yX11_of cX11_of 3 (some .int)] [1089] (by decide +kernel)) (in_app (in_r wo_t_of [559, 629, 630, 631, 71, 1090, 94] (by decide +kernel)) (in_app im_wsX110 (in_app im_c_hasHand0 (in_app im_ux_at im_nil))))
set_option maxHeartbeats 4000000 in
set_option maxRecDepth 100000 in
theorem t_of (l : Launch) (hst : l.stackTraces = false) (dC : Nat → ClassId) (dI : Nat → Nat → Nat) (ad av : Nat → Nat) (sz : Nat) (h0 : Nat) (a : Nat → Nat) (k : Nat → ClassId) (p0 : Int32) (p1 : Int32) : vx_Met l yX11_of wm_t_of ({ frames := 8, cells := 1, slots := 6, locals := 200 }) (pr_ ad av (dC, dI) sz [.ref h0, .int p0, .int p1] [(h0, .inr (11, [.ref (a 1), .ref (a 2), .ref (a 3), .ref (a 4), .ref (a 5), .ref (a 6), .ref (a 7), .int 0, .ref (a 8), .int 0])), ((a 1), .inr (1, [.ref (a 9), .int 0, .ref (a 10), .int 0, .ref (a 11), .int 0, .ref (a 12), .int 0]))] []) (va_Qi (fun (_ _ : Int32) => False) (fun (_ : Int32) (_ : State) => True) (va_A [(h0, .inr (11, [.ref (a 1), .ref (a 2), .ref (a 3), .ref (a 4), .ref (a 5), .ref (a 6), .ref (a 7), .int 0, .ref (a 8), .int 0])), ((a 1), .inr (1, [.ref (a 9), .int 0, .ref (a 10), .int 0, .ref (a 11), .int 0, .ref (a 12), .int 0]))] sz)) (vx_X (fun (_ : Unit) => True) (fun (E : String) (_ : Unit) (_ : State) => E = NSE) (va_A [(h0, .inr (11, [.ref (a 1), .ref (a 2), .ref (a 3), .ref (a 4), .ref (a 5), .ref (a 6), .ref (a 7), .int 0, .ref (a 8), .int 0])), ((a 1), .inr (1, [.ref (a 9), .int 0, .ref (a 10), .int 0, .ref (a 11), .int 0, .ref (a 12), .int 0]))] sz)) 1 6 (va_A [(h0, .inr (11, [.ref (a 1), .ref (a 2), .ref (a 3), .ref (a 4), .ref (a 5), .ref (a 6), .ref (a 7), .int 0, .ref (a 8), .int 0])), ((a 1), .inr (1, [.ref (a 9), .int 0, .ref (a 10), .int 0, .ref (a 11), .int 0, .ref (a 12), .int 0]))] sz) := by
  refine vx_ofW (cc := cX11_of) (maxL := 3) (ret := (some .int)) (by decide) rfl ?_
  intro p e s m args below meth c s₁ B hml hex hv
  obtain ⟨rfl, hsz, hP, hK, hD0, hM⟩ := hv
  have hx := B.exec
  have hb := B.bytes
  have hr := B.returns
  have hts := atoms_spec (ws := wm_t_of) B.pre
  have hown : s.vm.findClass RX11 = some m.cls := findClass_of_methodNamed B.named
  have hlocks := B.notSynchronized
  subst hsz
  have hD := hD0.self (sz := s.heap.size)
  generalize hAe : va_A [(h0, .inr (11, [.ref (a 1), .ref (a 2), .ref (a 3), .ref (a 4), .ref (a 5), .ref (a 6), .ref (a 7), .int 0, .ref (a 8), .int 0])), ((a 1), .inr (1, [.ref (a 9), .int 0, .ref (a 10), .int 0, .ref (a 11), .int 0, .ref (a 12), .int 0]))] s.heap.size = A at hD hM ⊢
  have hA : ∀ q : Nat, s.heap.size ≤ q → A q := fun q h => by rw [← hAe]; exact Or.inr h
  have hS : va_S A s.heap s.heap [] := va_S.rf
  have hP : va_P (dC, dI) vwCl [(h0, .inr (11, [.ref (a 1), .ref (a 2), .ref (a 3), .ref (a 4), .ref (a 5), .ref (a 6), .ref (a 7), .int 0, .ref (a 8), .int 0])), ((a 1), .inr (1, [.ref (a 9), .int 0, .ref (a 10), .int 0, .ref (a 11), .int 0, .ref (a 12), .int 0]))] s.heap := hP
  have hl := lv_entry ([.ref h0, .int p0, .int p1]) (n := 3) (Nat.le_of_ble_eq_true rfl)
  rw [lg_entry_eq]
  generalize (lg_sl ([.ref h0, .int p0, .int p1]) ++ List.replicate (3 - (lg_sl ([.ref h0, .int p0, .int p1])).length) Slot.unset).toArray = ls at hl ⊢
  have hl : lv_has ls 3 [(0, .ref h0), (1, .int p0), (2, .int p1)] := hl
  refine lv_aload_n hx hb dX11_of_0 rfl (lv_at hl 0 rfl) ?_
  refine va_get (D := (dC, dI)) (ci := 11) (v := .ref (a 1)) (C := RX11) (T := TX11) (N := 10) hx hb hts (fun _ hh => (List.mem_cons_of_mem _ (List.mem_append_right _ (List.mem_append_left _ hh)))) hown hK hP 0 rfl rfl 0 (by decide) (hts (.fieldLink RX11 10 "TypingPool" "book" "LTypingPool$Book;") (List.mem_cons_of_mem _ (List.mem_append_left _ (List.mem_of_getElem? (i := 0) rfl)))) (fun _ h9 => h9) rfl dX11_of_1 ?_
  refine lv_iload_n hx hb dX11_of_4 rfl (lv_at hl 1 rfl) ?_
  have hPc := hP.sub (ws' := [((a 1), .inr (1, [.ref (a 9), .int 0, .ref (a 10), .int 0, .ref (a 11), .int 0, .ref (a 12), .int 0]))]) [1] rfl
  have hDc := hD.sub (ws' := [((a 1), .inr (1, [.ref (a 9), .int 0, .ref (a 10), .int 0, .ref (a 11), .int 0, .ref (a 12), .int 0]))]) [1] (by decide) rfl
  have hKc := hK.sub (tys' := []) [] rfl
  have hFc := va_free (wc := [((a 1), .inr (1, [.ref (a 9), .int 0, .ref (a 10), .int 0, .ref (a 11), .int 0, .ref (a 12), .int 0]))]) hD hS hA [1] rfl
  refine va_calli (va_runV (As := [.int p0]) (rest := []) ⟨hx, hb, hml, hown, hts⟩ (c_hasHand0 l dC dI ad av s.heap.size (a 1) (a 9) (a 10) (a 11) (a 12) p0 ) (cwV 1 hts (gi_4 (List.mem_cons_of_mem _ (List.mem_append_left _ (List.mem_of_getElem? (i := 1) rfl))) (List.mem_cons_of_mem _ (List.mem_append_left _ (List.mem_of_getElem? (i := 2) rfl))) (List.mem_cons_of_mem _ (List.mem_append_left _ (List.mem_of_getElem? (i := 3) rfl))) (List.mem_cons_of_mem _ (List.mem_append_left _ (List.mem_of_getElem? (i := 4) rfl))) (fun _ hh => (List.mem_cons_of_mem _ (List.mem_append_right _ (List.mem_append_right _ (List.mem_append_left _ hh))))) gd_c_hasHand0) rfl rfl rfl (by decide +kernel) ⟨Nat.le_of_ble_eq_true rfl, Nat.le_of_ble_eq_true rfl⟩) ⟨pr_blind, va_recv hKc hPc (ci := 1) (q0 := 0) rfl rfl, pr_use hPc hKc hDc hFc hS hM⟩ rfl rfl hl.1 rfl (lv_room (Nat.le_of_ble_eq_true rfl)) dX11_of_5 ⟨Nat.le_of_ble_eq_true rfl, Nat.le_of_ble_eq_true rfl⟩) hS (fun q _ h => hFc q h) hFc (fun r_1 u t H locs ht hvm hw hB hz1 hk1 hS => ?_)
  refine W.widen (k := 0) (n := 0) (Nat.le_of_ble_eq_true rfl) (Nat.le_of_ble_eq_true rfl) ?_
  subst hw
  obtain ⟨hre_2, hP1, hK1, hD1⟩ := hB
  refine lq_top (v := 0) hre_2 ?_
  rw [ht] at hP1
  have hK1 := va_K.moved hvm.symm hK1
  obtain ⟨hP, hD⟩ := va_join (wr := [(h0, .inr (11, [.ref (a 1), .ref (a 2), .ref (a 3), .ref (a 4), .ref (a 5), .ref (a 6), .ref (a 7), .int 0, .ref (a 8), .int 0]))]) (w1 := [((a 1), .inr (1, [.ref (a 9), .int 0, .ref (a 10), .int 0, .ref (a 11), .int 0, .ref (a 12), .int 0]))]) hP hD [1] [0] rfl rfl (by decide) (by decide) hk1 hFc hP1 hD1
  have hK := (hK.sub (tys' := []) [] rfl).app hK1
  have hP : va_P (dC, dI) vwCl [(h0, .inr (11, [.ref (a 1), .ref (a 2), .ref (a 3), .ref (a 4), .ref (a 5), .ref (a 6), .ref (a 7), .int 0, .ref (a 8), .int 0])), ((a 1), .inr (1, [.ref (a 9), .int 0, .ref (a 10), .int 0, .ref (a 11), .int 0, .ref (a 12), .int 0]))] H := hP
  have hD : va_D A [(h0, .inr (11, [.ref (a 1), .ref (a 2), .ref (a 3), .ref (a 4), .ref (a 5), .ref (a 6), .ref (a 7), .int 0, .ref (a 8), .int 0])), ((a 1), .inr (1, [.ref (a 9), .int 0, .ref (a 10), .int 0, .ref (a 11), .int 0, .ref (a 12), .int 0]))] := hD
  have hK : va_K (dC, dI) vwCl [] s := hK
  refine lv_if_ne (tgt := 21) hx hb dX11_of_8 (by decide) (fun c_3 => absurd c_3 (fun z => z (by decide))) (fun c_3 => ?_)
  exact ux_throw hx hb hst hown (hts (.classLink RX11 171 "java/util/NoSuchElementException") (List.mem_cons_of_mem _ (List.mem_append_left _ (List.mem_of_getElem? (i := 5) rfl)))) (hts (.initialized "java/util/NoSuchElementException") (List.mem_cons_of_mem _ (List.mem_append_left _ (List.mem_of_getElem? (i := 6) rfl)))) (hM.2.2.1 9 _ rfl).1 (fun w h => hts w (List.mem_cons_of_mem _ (List.mem_append_right _ (List.mem_append_right _ (List.mem_append_right _ (List.mem_append_left _ h)))))) hM.2.2.2.2.2.2.1 hM.2.2.2.2.1 hM.2.2.2.2.2.1 hS (by rw [hml]; exact hl.1) dX11_of_11 dX11_of_14 dX11_of_15 dX11_of_17 dX11_of_20 (fun x hx => (hex x hx).elim) (Nat.le_of_ble_eq_true rfl) (Nat.le_of_ble_eq_true rfl) (Nat.le_of_ble_eq_true rfl) (Nat.le_of_ble_eq_true rfl) hlocks (fun t ht hz hk => ⟨(), trivial, rfl, Nat.le_trans hS.1 hz, fun q h1 h2 => (hk q (Nat.lt_of_lt_of_le h1 hS.1)).trans (hS.2.1 q h1 h2)⟩) hS.2.2 (Nat.le_of_ble_eq_true rfl) (Nat.le_of_ble_eq_true rfl)
def wo_t_order : List Cond := [.fieldLink RX11 10 "TypingPool" "book" "LTypingPool$Book;", .methodLink RX11 95 yX1_hasHand, .instanceMethod yX1_hasHand, .selects RX1 yX1_hasHand yX1_hasHand, .initialized RX1, .classLink RX11 171 "java/util/NoSuchElementException", .initialized "java/util/NoSuchElementException"]
def wm_t_order : List Cond := .code yX11_order cX11_order 3 (some .int) :: (wo_t_order ++ (wsX110 ++ (wm_c_hasHand0 ++ (ux_at ++ ([] : List Cond)))))
theorem gd_t_order : ∀ w ∈ wm_t_order, goodWord w = true := gd_c rfl (gd_a (by decide) (gd_a gd_wsX110 (gd_a gd_c_hasHand0 (gd_a gd_ux_at gd_nil))))
set_option maxRecDepth 20000 in
theorem im_t_order : ∀ w ∈ wm_t_order, w ∈ lw_tbl := im_c (in_r [.code yX11_order cX11_order 3 (some .int)] [1167] (by decide +kernel)) (in_app (in_r wo_t_order [559, 629, 630, 631, 71, 1090, 94] (by decide +kernel)) (in_app im_wsX110 (in_app im_c_hasHand0 (in_app im_ux_at im_nil))))
set_option maxHeartbeats 4000000 in
set_option maxRecDepth 100000 in
theorem t_order (l : Launch) (hst : l.stackTraces = false) (dC : Nat → ClassId) (dI : Nat → Nat → Nat) (ad av : Nat → Nat) (sz : Nat) (h0 : Nat) (a : Nat → Nat) (k : Nat → ClassId) (p0 : Int32) (p1 : Int32) : vx_Met l yX11_order wm_t_order ({ frames := 8, cells := 1, slots := 6, locals := 200 }) (pr_ ad av (dC, dI) sz [.ref h0, .int p0, .int p1] [(h0, .inr (11, [.ref (a 1), .ref (a 2), .ref (a 3), .ref (a 4), .ref (a 5), .ref (a 6), .ref (a 7), .int 0, .ref (a 8), .int 0])), ((a 1), .inr (1, [.ref (a 9), .int 0, .ref (a 10), .int 0, .ref (a 11), .int 0, .ref (a 12), .int 0]))] []) (va_Qi (fun (_ _ : Int32) => False) (fun (_ : Int32) (_ : State) => True) (va_A [(h0, .inr (11, [.ref (a 1), .ref (a 2), .ref (a 3), .ref (a 4), .ref (a 5), .ref (a 6), .ref (a 7), .int 0, .ref (a 8), .int 0])), ((a 1), .inr (1, [.ref (a 9), .int 0, .ref (a 10), .int 0, .ref (a 11), .int 0, .ref (a 12), .int 0]))] sz)) (vx_X (fun (_ : Unit) => True) (fun (E : String) (_ : Unit) (_ : State) => E = NSE) (va_A [(h0, .inr (11, [.ref (a 1), .ref (a 2), .ref (a 3), .ref (a 4), .ref (a 5), .ref (a 6), .ref (a 7), .int 0, .ref (a 8), .int 0])), ((a 1), .inr (1, [.ref (a 9), .int 0, .ref (a 10), .int 0, .ref (a 11), .int 0, .ref (a 12), .int 0]))] sz)) 1 6 (va_A [(h0, .inr (11, [.ref (a 1), .ref (a 2), .ref (a 3), .ref (a 4), .ref (a 5), .ref (a 6), .ref (a 7), .int 0, .ref (a 8), .int 0])), ((a 1), .inr (1, [.ref (a 9), .int 0, .ref (a 10), .int 0, .ref (a 11), .int 0, .ref (a 12), .int 0]))] sz) := by
  refine vx_ofW (cc := cX11_order) (maxL := 3) (ret := (some .int)) (by decide) rfl ?_
  intro p e s m args below meth c s₁ B hml hex hv
  obtain ⟨rfl, hsz, hP, hK, hD0, hM⟩ := hv
  have hx := B.exec
  have hb := B.bytes
  have hr := B.returns
  have hts := atoms_spec (ws := wm_t_order) B.pre
  have hown : s.vm.findClass RX11 = some m.cls := findClass_of_methodNamed B.named
  have hlocks := B.notSynchronized
  subst hsz
  have hD := hD0.self (sz := s.heap.size)
  generalize hAe : va_A [(h0, .inr (11, [.ref (a 1), .ref (a 2), .ref (a 3), .ref (a 4), .ref (a 5), .ref (a 6), .ref (a 7), .int 0, .ref (a 8), .int 0])), ((a 1), .inr (1, [.ref (a 9), .int 0, .ref (a 10), .int 0, .ref (a 11), .int 0, .ref (a 12), .int 0]))] s.heap.size = A at hD hM ⊢
  have hA : ∀ q : Nat, s.heap.size ≤ q → A q := fun q h => by rw [← hAe]; exact Or.inr h
  have hS : va_S A s.heap s.heap [] := va_S.rf
  have hP : va_P (dC, dI) vwCl [(h0, .inr (11, [.ref (a 1), .ref (a 2), .ref (a 3), .ref (a 4), .ref (a 5), .ref (a 6), .ref (a 7), .int 0, .ref (a 8), .int 0])), ((a 1), .inr (1, [.ref (a 9), .int 0, .ref (a 10), .int 0, .ref (a 11), .int 0, .ref (a 12), .int 0]))] s.heap := hP
  have hl := lv_entry ([.ref h0, .int p0, .int p1]) (n := 3) (Nat.le_of_ble_eq_true rfl)
  rw [lg_entry_eq]
  generalize (lg_sl ([.ref h0, .int p0, .int p1]) ++ List.replicate (3 - (lg_sl ([.ref h0, .int p0, .int p1])).length) Slot.unset).toArray = ls at hl ⊢
  have hl : lv_has ls 3 [(0, .ref h0), (1, .int p0), (2, .int p1)] := hl
  refine lv_aload_n hx hb dX11_order_0 rfl (lv_at hl 0 rfl) ?_
  refine va_get (D := (dC, dI)) (ci := 11) (v := .ref (a 1)) (C := RX11) (T := TX11) (N := 10) hx hb hts (fun _ hh => (List.mem_cons_of_mem _ (List.mem_append_right _ (List.mem_append_left _ hh)))) hown hK hP 0 rfl rfl 0 (by decide) (hts (.fieldLink RX11 10 "TypingPool" "book" "LTypingPool$Book;") (List.mem_cons_of_mem _ (List.mem_append_left _ (List.mem_of_getElem? (i := 0) rfl)))) (fun _ h9 => h9) rfl dX11_order_1 ?_
  refine lv_iload_n hx hb dX11_order_4 rfl (lv_at hl 1 rfl) ?_
  have hPc := hP.sub (ws' := [((a 1), .inr (1, [.ref (a 9), .int 0, .ref (a 10), .int 0, .ref (a 11), .int 0, .ref (a 12), .int 0]))]) [1] rfl
  have hDc := hD.sub (ws' := [((a 1), .inr (1, [.ref (a 9), .int 0, .ref (a 10), .int 0, .ref (a 11), .int 0, .ref (a 12), .int 0]))]) [1] (by decide) rfl
  have hKc := hK.sub (tys' := []) [] rfl
  have hFc := va_free (wc := [((a 1), .inr (1, [.ref (a 9), .int 0, .ref (a 10), .int 0, .ref (a 11), .int 0, .ref (a 12), .int 0]))]) hD hS hA [1] rfl
  refine va_calli (va_runV (As := [.int p0]) (rest := []) ⟨hx, hb, hml, hown, hts⟩ (c_hasHand0 l dC dI ad av s.heap.size (a 1) (a 9) (a 10) (a 11) (a 12) p0 ) (cwV 1 hts (gi_4 (List.mem_cons_of_mem _ (List.mem_append_left _ (List.mem_of_getElem? (i := 1) rfl))) (List.mem_cons_of_mem _ (List.mem_append_left _ (List.mem_of_getElem? (i := 2) rfl))) (List.mem_cons_of_mem _ (List.mem_append_left _ (List.mem_of_getElem? (i := 3) rfl))) (List.mem_cons_of_mem _ (List.mem_append_left _ (List.mem_of_getElem? (i := 4) rfl))) (fun _ hh => (List.mem_cons_of_mem _ (List.mem_append_right _ (List.mem_append_right _ (List.mem_append_left _ hh))))) gd_c_hasHand0) rfl rfl rfl (by decide +kernel) ⟨Nat.le_of_ble_eq_true rfl, Nat.le_of_ble_eq_true rfl⟩) ⟨pr_blind, va_recv hKc hPc (ci := 1) (q0 := 0) rfl rfl, pr_use hPc hKc hDc hFc hS hM⟩ rfl rfl hl.1 rfl (lv_room (Nat.le_of_ble_eq_true rfl)) dX11_order_5 ⟨Nat.le_of_ble_eq_true rfl, Nat.le_of_ble_eq_true rfl⟩) hS (fun q _ h => hFc q h) hFc (fun r_4 u t H locs ht hvm hw hB hz1 hk1 hS => ?_)
  refine W.widen (k := 0) (n := 0) (Nat.le_of_ble_eq_true rfl) (Nat.le_of_ble_eq_true rfl) ?_
  subst hw
  obtain ⟨hre_5, hP1, hK1, hD1⟩ := hB
  refine lq_top (v := 0) hre_5 ?_
  rw [ht] at hP1
  have hK1 := va_K.moved hvm.symm hK1
  obtain ⟨hP, hD⟩ := va_join (wr := [(h0, .inr (11, [.ref (a 1), .ref (a 2), .ref (a 3), .ref (a 4), .ref (a 5), .ref (a 6), .ref (a 7), .int 0, .ref (a 8), .int 0]))]) (w1 := [((a 1), .inr (1, [.ref (a 9), .int 0, .ref (a 10), .int 0, .ref (a 11), .int 0, .ref (a 12), .int 0]))]) hP hD [1] [0] rfl rfl (by decide) (by decide) hk1 hFc hP1 hD1
  have hK := (hK.sub (tys' := []) [] rfl).app hK1
  have hP : va_P (dC, dI) vwCl [(h0, .inr (11, [.ref (a 1), .ref (a 2), .ref (a 3), .ref (a 4), .ref (a 5), .ref (a 6), .ref (a 7), .int 0, .ref (a 8), .int 0])), ((a 1), .inr (1, [.ref (a 9), .int 0, .ref (a 10), .int 0, .ref (a 11), .int 0, .ref (a 12), .int 0]))] H := hP
  have hD : va_D A [(h0, .inr (11, [.ref (a 1), .ref (a 2), .ref (a 3), .ref (a 4), .ref (a 5), .ref (a 6), .ref (a 7), .int 0, .ref (a 8), .int 0])), ((a 1), .inr (1, [.ref (a 9), .int 0, .ref (a 10), .int 0, .ref (a 11), .int 0, .ref (a 12), .int 0]))] := hD
  have hK : va_K (dC, dI) vwCl [] s := hK
  refine lv_if_eq (tgt := 22) hx hb dX11_order_8 (by decide) (fun c_6 => ?_) (fun c_6 => absurd c_6 (fun z => z (by decide)))
  exact ux_throw hx hb hst hown (hts (.classLink RX11 171 "java/util/NoSuchElementException") (List.mem_cons_of_mem _ (List.mem_append_left _ (List.mem_of_getElem? (i := 5) rfl)))) (hts (.initialized "java/util/NoSuchElementException") (List.mem_cons_of_mem _ (List.mem_append_left _ (List.mem_of_getElem? (i := 6) rfl)))) (hM.2.2.1 11 _ rfl).1 (fun w h => hts w (List.mem_cons_of_mem _ (List.mem_append_right _ (List.mem_append_right _ (List.mem_append_right _ (List.mem_append_left _ h)))))) hM.2.2.2.2.2.2.1 hM.2.2.2.2.1 hM.2.2.2.2.2.1 hS (by rw [hml]; exact hl.1) dX11_order_22 dX11_order_25 dX11_order_26 dX11_order_28 dX11_order_31 (fun x hx => (hex x hx).elim) (Nat.le_of_ble_eq_true rfl) (Nat.le_of_ble_eq_true rfl) (Nat.le_of_ble_eq_true rfl) (Nat.le_of_ble_eq_true rfl) hlocks (fun t ht hz hk => ⟨(), trivial, rfl, Nat.le_trans hS.1 hz, fun q h1 h2 => (hk q (Nat.lt_of_lt_of_le h1 hS.1)).trans (hS.2.1 q h1 h2)⟩) hS.2.2 (Nat.le_of_ble_eq_true rfl) (Nat.le_of_ble_eq_true rfl)
def wo_t_pay : List Cond := [.fieldLink RX11 10 "TypingPool" "book" "LTypingPool$Book;", .methodLink RX11 201 yX1_hasPiece, .instanceMethod yX1_hasPiece, .selects RX1 yX1_hasPiece yX1_hasPiece, .initialized RX1, .classLink RX11 171 "java/util/NoSuchElementException", .initialized "java/util/NoSuchElementException"]
def wm_t_pay : List Cond := .code yX11_pay cX11_pay 2 (some .int) :: (wo_t_pay ++ (wsX110 ++ (wm_c_hasPiece0 ++ (ux_at ++ ([] : List Cond)))))
theorem gd_t_pay : ∀ w ∈ wm_t_pay, goodWord w = true := gd_c rfl (gd_a (by decide) (gd_a gd_wsX110 (gd_a gd_c_hasPiece0 (gd_a gd_ux_at gd_nil))))
set_option maxRecDepth 20000 in
theorem im_t_pay : ∀ w ∈ wm_t_pay, w ∈ lw_tbl := im_c (in_r [.code yX11_pay cX11_pay 2 (some .int)] [1176] (by decide +kernel)) (in_app (in_r wo_t_pay [559, 859, 841, 842, 71, 1090, 94] (by decide +kernel)) (in_app im_wsX110 (in_app im_c_hasPiece0 (in_app im_ux_at im_nil))))
set_option maxHeartbeats 4000000 in
set_option maxRecDepth 100000 in
theorem t_pay (l : Launch) (hst : l.stackTraces = false) (dC : Nat → ClassId) (dI : Nat → Nat → Nat) (ad av : Nat → Nat) (sz : Nat) (h0 : Nat) (a : Nat → Nat) (k : Nat → ClassId) (p0 : Int32) : vx_Met l yX11_pay wm_t_pay ({ frames := 8, cells := 1, slots := 6, locals := 200 }) (pr_ ad av (dC, dI) sz [.ref h0, .int p0] [(h0, .inr (11, [.ref (a 1), .ref (a 2), .ref (a 3), .ref (a 4), .ref (a 5), .ref (a 6), .ref (a 7), .int 0, .ref (a 8), .int 0])), ((a 1), .inr (1, [.ref (a 9), .int 0, .ref (a 10), .int 0, .ref (a 11), .int 0, .ref (a 12), .int 0]))] []) (va_Qi (fun (_ _ : Int32) => False) (fun (_ : Int32) (_ : State) => True) (va_A [(h0, .inr (11, [.ref (a 1), .ref (a 2), .ref (a 3), .ref (a 4), .ref (a 5), .ref (a 6), .ref (a 7), .int 0, .ref (a 8), .int 0])), ((a 1), .inr (1, [.ref (a 9), .int 0, .ref (a 10), .int 0, .ref (a 11), .int 0, .ref (a 12), .int 0]))] sz)) (vx_X (fun (_ : Unit) => True) (fun (E : String) (_ : Unit) (_ : State) => E = NSE) (va_A [(h0, .inr (11, [.ref (a 1), .ref (a 2), .ref (a 3), .ref (a 4), .ref (a 5), .ref (a 6), .ref (a 7), .int 0, .ref (a 8), .int 0])), ((a 1), .inr (1, [.ref (a 9), .int 0, .ref (a 10), .int 0, .ref (a 11), .int 0, .ref (a 12), .int 0]))] sz)) 1 6 (va_A [(h0, .inr (11, [.ref (a 1), .ref (a 2), .ref (a 3), .ref (a 4), .ref (a 5), .ref (a 6), .ref (a 7), .int 0, .ref (a 8), .int 0])), ((a 1), .inr (1, [.ref (a 9), .int 0, .ref (a 10), .int 0, .ref (a 11), .int 0, .ref (a 12), .int 0]))] sz) := by
  refine vx_ofW (cc := cX11_pay) (maxL := 2) (ret := (some .int)) (by decide) rfl ?_
  intro p e s m args below meth c s₁ B hml hex hv
  obtain ⟨rfl, hsz, hP, hK, hD0, hM⟩ := hv
  have hx := B.exec
  have hb := B.bytes
  have hr := B.returns
  have hts := atoms_spec (ws := wm_t_pay) B.pre
  have hown : s.vm.findClass RX11 = some m.cls := findClass_of_methodNamed B.named
  have hlocks := B.notSynchronized
  subst hsz
  have hD := hD0.self (sz := s.heap.size)
  generalize hAe : va_A [(h0, .inr (11, [.ref (a 1), .ref (a 2), .ref (a 3), .ref (a 4), .ref (a 5), .ref (a 6), .ref (a 7), .int 0, .ref (a 8), .int 0])), ((a 1), .inr (1, [.ref (a 9), .int 0, .ref (a 10), .int 0, .ref (a 11), .int 0, .ref (a 12), .int 0]))] s.heap.size = A at hD hM ⊢
  have hA : ∀ q : Nat, s.heap.size ≤ q → A q := fun q h => by rw [← hAe]; exact Or.inr h
  have hS : va_S A s.heap s.heap [] := va_S.rf
  have hP : va_P (dC, dI) vwCl [(h0, .inr (11, [.ref (a 1), .ref (a 2), .ref (a 3), .ref (a 4), .ref (a 5), .ref (a 6), .ref (a 7), .int 0, .ref (a 8), .int 0])), ((a 1), .inr (1, [.ref (a 9), .int 0, .ref (a 10), .int 0, .ref (a 11), .int 0, .ref (a 12), .int 0]))] s.heap := hP
  have hl := lv_entry ([.ref h0, .int p0]) (n := 2) (Nat.le_of_ble_eq_true rfl)
  rw [lg_entry_eq]
  generalize (lg_sl ([.ref h0, .int p0]) ++ List.replicate (2 - (lg_sl ([.ref h0, .int p0])).length) Slot.unset).toArray = ls at hl ⊢
  have hl : lv_has ls 2 [(0, .ref h0), (1, .int p0)] := hl
  refine lv_aload_n hx hb dX11_pay_0 rfl (lv_at hl 0 rfl) ?_
  refine va_get (D := (dC, dI)) (ci := 11) (v := .ref (a 1)) (C := RX11) (T := TX11) (N := 10) hx hb hts (fun _ hh => (List.mem_cons_of_mem _ (List.mem_append_right _ (List.mem_append_left _ hh)))) hown hK hP 0 rfl rfl 0 (by decide) (hts (.fieldLink RX11 10 "TypingPool" "book" "LTypingPool$Book;") (List.mem_cons_of_mem _ (List.mem_append_left _ (List.mem_of_getElem? (i := 0) rfl)))) (fun _ h9 => h9) rfl dX11_pay_1 ?_
  refine lv_iload_n hx hb dX11_pay_4 rfl (lv_at hl 1 rfl) ?_
  have hPc := hP.sub (ws' := [((a 1), .inr (1, [.ref (a 9), .int 0, .ref (a 10), .int 0, .ref (a 11), .int 0, .ref (a 12), .int 0]))]) [1] rfl
  have hDc := hD.sub (ws' := [((a 1), .inr (1, [.ref (a 9), .int 0, .ref (a 10), .int 0, .ref (a 11), .int 0, .ref (a 12), .int 0]))]) [1] (by decide) rfl
  have hKc := hK.sub (tys' := []) [] rfl
  have hFc := va_free (wc := [((a 1), .inr (1, [.ref (a 9), .int 0, .ref (a 10), .int 0, .ref (a 11), .int 0, .ref (a 12), .int 0]))]) hD hS hA [1] rfl
  refine va_calli (va_runV (As := [.int p0]) (rest := []) ⟨hx, hb, hml, hown, hts⟩ (c_hasPiece0 l dC dI ad av s.heap.size (a 1) (a 9) (a 10) (a 11) (a 12) p0 ) (cwV 1 hts (gi_4 (List.mem_cons_of_mem _ (List.mem_append_left _ (List.mem_of_getElem? (i := 1) rfl))) (List.mem_cons_of_mem _ (List.mem_append_left _ (List.mem_of_getElem? (i := 2) rfl))) (List.mem_cons_of_mem _ (List.mem_append_left _ (List.mem_of_getElem? (i := 3) rfl))) (List.mem_cons_of_mem _ (List.mem_append_left _ (List.mem_of_getElem? (i := 4) rfl))) (fun _ hh => (List.mem_cons_of_mem _ (List.mem_append_right _ (List.mem_append_right _ (List.mem_append_left _ hh))))) gd_c_hasPiece0) rfl rfl rfl (by decide +kernel) ⟨Nat.le_of_ble_eq_true rfl, Nat.le_of_ble_eq_true rfl⟩) ⟨pr_blind, va_recv hKc hPc (ci := 1) (q0 := 0) rfl rfl, pr_use hPc hKc hDc hFc hS hM⟩ rfl rfl hl.1 rfl (lv_room (Nat.le_of_ble_eq_true rfl)) dX11_pay_5 ⟨Nat.le_of_ble_eq_true rfl, Nat.le_of_ble_eq_true rfl⟩) hS (fun q _ h => hFc q h) hFc (fun r_7 u t H locs ht hvm hw hB hz1 hk1 hS => ?_)
  refine W.widen (k := 0) (n := 0) (Nat.le_of_ble_eq_true rfl) (Nat.le_of_ble_eq_true rfl) ?_
  subst hw
  obtain ⟨hre_8, hP1, hK1, hD1⟩ := hB
  refine lq_top (v := 0) hre_8 ?_
  rw [ht] at hP1
  have hK1 := va_K.moved hvm.symm hK1
  obtain ⟨hP, hD⟩ := va_join (wr := [(h0, .inr (11, [.ref (a 1), .ref (a 2), .ref (a 3), .ref (a 4), .ref (a 5), .ref (a 6), .ref (a 7), .int 0, .ref (a 8), .int 0]))]) (w1 := [((a 1), .inr (1, [.ref (a 9), .int 0, .ref (a 10), .int 0, .ref (a 11), .int 0, .ref (a 12), .int 0]))]) hP hD [1] [0] rfl rfl (by decide) (by decide) hk1 hFc hP1 hD1
  have hK := (hK.sub (tys' := []) [] rfl).app hK1
  have hP : va_P (dC, dI) vwCl [(h0, .inr (11, [.ref (a 1), .ref (a 2), .ref (a 3), .ref (a 4), .ref (a 5), .ref (a 6), .ref (a 7), .int 0, .ref (a 8), .int 0])), ((a 1), .inr (1, [.ref (a 9), .int 0, .ref (a 10), .int 0, .ref (a 11), .int 0, .ref (a 12), .int 0]))] H := hP
  have hD : va_D A [(h0, .inr (11, [.ref (a 1), .ref (a 2), .ref (a 3), .ref (a 4), .ref (a 5), .ref (a 6), .ref (a 7), .int 0, .ref (a 8), .int 0])), ((a 1), .inr (1, [.ref (a 9), .int 0, .ref (a 10), .int 0, .ref (a 11), .int 0, .ref (a 12), .int 0]))] := hD
  have hK : va_K (dC, dI) vwCl [] s := hK
  refine lv_if_ne (tgt := 22) hx hb dX11_pay_8 (by decide) (fun c_9 => absurd c_9 (fun z => z (by decide))) (fun c_9 => ?_)
  exact ux_throwW hx hb hst hown (hts (.classLink RX11 171 "java/util/NoSuchElementException") (List.mem_cons_of_mem _ (List.mem_append_left _ (List.mem_of_getElem? (i := 5) rfl)))) (hts (.initialized "java/util/NoSuchElementException") (List.mem_cons_of_mem _ (List.mem_append_left _ (List.mem_of_getElem? (i := 6) rfl)))) (hM.2.2.1 12 _ rfl).1 (fun w h => hts w (List.mem_cons_of_mem _ (List.mem_append_right _ (List.mem_append_right _ (List.mem_append_right _ (List.mem_append_left _ h)))))) hM.2.2.2.2.2.2.1 hM.2.2.2.2.1 hM.2.2.2.2.2.1 hS (by rw [hml]; exact hl.1) dX11_pay_11 dX11_pay_14 dX11_pay_15 dX11_pay_18 dX11_pay_21 (fun x hx => (hex x hx).elim) (Nat.le_of_ble_eq_true rfl) (Nat.le_of_ble_eq_true rfl) (Nat.le_of_ble_eq_true rfl) (Nat.le_of_ble_eq_true rfl) hlocks (fun t ht hz hk => ⟨(), trivial, rfl, Nat.le_trans hS.1 hz, fun q h1 h2 => (hk q (Nat.lt_of_lt_of_le h1 hS.1)).trans (hS.2.1 q h1 h2)⟩) hS.2.2 (Nat.le_of_ble_eq_true rfl) (Nat.le_of_ble_eq_true rfl)
def wo_t_earns : List Cond := [.fieldLink RX11 10 "TypingPool" "book" "LTypingPool$Book;", .methodLink RX11 95 yX1_hasHand, .instanceMethod yX1_hasHand, .selects RX1 yX1_hasHand yX1_hasHand, .initialized RX1, .classLink RX11 171 "java/util/NoSuchElementException", .initialized "java/util/NoSuchElementException"]
def wm_t_earns : List Cond := .code yX11_earns cX11_earns 3 (some .int) :: (wo_t_earns ++ (wsX110 ++ (wm_c_hasHand0 ++ (ux_at ++ ([] : List Cond)))))
theorem gd_t_earns : ∀ w ∈ wm_t_earns, goodWord w = true := gd_c rfl (gd_a (by decide) (gd_a gd_wsX110 (gd_a gd_c_hasHand0 (gd_a gd_ux_at gd_nil))))
set_option maxRecDepth 20000 in
theorem im_t_earns : ∀ w ∈ wm_t_earns, w ∈ lw_tbl := im_c (in_r [.code yX11_earns cX11_earns 3 (some .int)] [1189] (by decide +kernel)) (in_app (in_r wo_t_earns [559, 629, 630, 631, 71, 1090, 94] (by decide +kernel)) (in_app im_wsX110 (in_app im_c_hasHand0 (in_app im_ux_at im_nil))))
set_option maxHeartbeats 4000000 in
set_option maxRecDepth 100000 in
theorem t_earns (l : Launch) (hst : l.stackTraces = false) (dC : Nat → ClassId) (dI : Nat → Nat → Nat) (ad av : Nat → Nat) (sz : Nat) (h0 : Nat) (a : Nat → Nat) (k : Nat → ClassId) (p0 : Int32) (p1 : Int32) : vx_Met l yX11_earns wm_t_earns ({ frames := 8, cells := 1, slots := 6, locals := 200 }) (pr_ ad av (dC, dI) sz [.ref h0, .int p0, .int p1] [(h0, .inr (11, [.ref (a 1), .ref (a 2), .ref (a 3), .ref (a 4), .ref (a 5), .ref (a 6), .ref (a 7), .int 0, .ref (a 8), .int 0])), ((a 1), .inr (1, [.ref (a 9), .int 0, .ref (a 10), .int 0, .ref (a 11), .int 0, .ref (a 12), .int 0]))] []) (va_Qi (fun (_ _ : Int32) => False) (fun (_ : Int32) (_ : State) => True) (va_A [(h0, .inr (11, [.ref (a 1), .ref (a 2), .ref (a 3), .ref (a 4), .ref (a 5), .ref (a 6), .ref (a 7), .int 0, .ref (a 8), .int 0])), ((a 1), .inr (1, [.ref (a 9), .int 0, .ref (a 10), .int 0, .ref (a 11), .int 0, .ref (a 12), .int 0]))] sz)) (vx_X (fun (_ : Unit) => True) (fun (E : String) (_ : Unit) (_ : State) => E = NSE) (va_A [(h0, .inr (11, [.ref (a 1), .ref (a 2), .ref (a 3), .ref (a 4), .ref (a 5), .ref (a 6), .ref (a 7), .int 0, .ref (a 8), .int 0])), ((a 1), .inr (1, [.ref (a 9), .int 0, .ref (a 10), .int 0, .ref (a 11), .int 0, .ref (a 12), .int 0]))] sz)) 1 6 (va_A [(h0, .inr (11, [.ref (a 1), .ref (a 2), .ref (a 3), .ref (a 4), .ref (a 5), .ref (a 6), .ref (a 7), .int 0, .ref (a 8), .int 0])), ((a 1), .inr (1, [.ref (a 9), .int 0, .ref (a 10), .int 0, .ref (a 11), .int 0, .ref (a 12), .int 0]))] sz) := by
  refine vx_ofW (cc := cX11_earns) (maxL := 3) (ret := (some .int)) (by decide) rfl ?_
  intro p e s m args below meth c s₁ B hml hex hv
  obtain ⟨rfl, hsz, hP, hK, hD0, hM⟩ := hv
  have hx := B.exec
  have hb := B.bytes
  have hr := B.returns
  have hts := atoms_spec (ws := wm_t_earns) B.pre
  have hown : s.vm.findClass RX11 = some m.cls := findClass_of_methodNamed B.named
  have hlocks := B.notSynchronized
  subst hsz
  have hD := hD0.self (sz := s.heap.size)
  generalize hAe : va_A [(h0, .inr (11, [.ref (a 1), .ref (a 2), .ref (a 3), .ref (a 4), .ref (a 5), .ref (a 6), .ref (a 7), .int 0, .ref (a 8), .int 0])), ((a 1), .inr (1, [.ref (a 9), .int 0, .ref (a 10), .int 0, .ref (a 11), .int 0, .ref (a 12), .int 0]))] s.heap.size = A at hD hM ⊢
  have hA : ∀ q : Nat, s.heap.size ≤ q → A q := fun q h => by rw [← hAe]; exact Or.inr h
  have hS : va_S A s.heap s.heap [] := va_S.rf
  have hP : va_P (dC, dI) vwCl [(h0, .inr (11, [.ref (a 1), .ref (a 2), .ref (a 3), .ref (a 4), .ref (a 5), .ref (a 6), .ref (a 7), .int 0, .ref (a 8), .int 0])), ((a 1), .inr (1, [.ref (a 9), .int 0, .ref (a 10), .int 0, .ref (a 11), .int 0, .ref (a 12), .int 0]))] s.heap := hP
  have hl := lv_entry ([.ref h0, .int p0, .int p1]) (n := 3) (Nat.le_of_ble_eq_true rfl)
  rw [lg_entry_eq]
  generalize (lg_sl ([.ref h0, .int p0, .int p1]) ++ List.replicate (3 - (lg_sl ([.ref h0, .int p0, .int p1])).length) Slot.unset).toArray = ls at hl ⊢
  have hl : lv_has ls 3 [(0, .ref h0), (1, .int p0), (2, .int p1)] := hl
  refine lv_aload_n hx hb dX11_earns_0 rfl (lv_at hl 0 rfl) ?_
  refine va_get (D := (dC, dI)) (ci := 11) (v := .ref (a 1)) (C := RX11) (T := TX11) (N := 10) hx hb hts (fun _ hh => (List.mem_cons_of_mem _ (List.mem_append_right _ (List.mem_append_left _ hh)))) hown hK hP 0 rfl rfl 0 (by decide) (hts (.fieldLink RX11 10 "TypingPool" "book" "LTypingPool$Book;") (List.mem_cons_of_mem _ (List.mem_append_left _ (List.mem_of_getElem? (i := 0) rfl)))) (fun _ h9 => h9) rfl dX11_earns_1 ?_
  refine lv_iload_n hx hb dX11_earns_4 rfl (lv_at hl 1 rfl) ?_
  have hPc := hP.sub (ws' := [((a 1), .inr (1, [.ref (a 9), .int 0, .ref (a 10), .int 0, .ref (a 11), .int 0, .ref (a 12), .int 0]))]) [1] rfl
  have hDc := hD.sub (ws' := [((a 1), .inr (1, [.ref (a 9), .int 0, .ref (a 10), .int 0, .ref (a 11), .int 0, .ref (a 12), .int 0]))]) [1] (by decide) rfl
  have hKc := hK.sub (tys' := []) [] rfl
  have hFc := va_free (wc := [((a 1), .inr (1, [.ref (a 9), .int 0, .ref (a 10), .int 0, .ref (a 11), .int 0, .ref (a 12), .int 0]))]) hD hS hA [1] rfl
  refine va_calli (va_runV (As := [.int p0]) (rest := []) ⟨hx, hb, hml, hown, hts⟩ (c_hasHand0 l dC dI ad av s.heap.size (a 1) (a 9) (a 10) (a 11) (a 12) p0 ) (cwV 1 hts (gi_4 (List.mem_cons_of_mem _ (List.mem_append_left _ (List.mem_of_getElem? (i := 1) rfl))) (List.mem_cons_of_mem _ (List.mem_append_left _ (List.mem_of_getElem? (i := 2) rfl))) (List.mem_cons_of_mem _ (List.mem_append_left _ (List.mem_of_getElem? (i := 3) rfl))) (List.mem_cons_of_mem _ (List.mem_append_left _ (List.mem_of_getElem? (i := 4) rfl))) (fun _ hh => (List.mem_cons_of_mem _ (List.mem_append_right _ (List.mem_append_right _ (List.mem_append_left _ hh))))) gd_c_hasHand0) rfl rfl rfl (by decide +kernel) ⟨Nat.le_of_ble_eq_true rfl, Nat.le_of_ble_eq_true rfl⟩) ⟨pr_blind, va_recv hKc hPc (ci := 1) (q0 := 0) rfl rfl, pr_use hPc hKc hDc hFc hS hM⟩ rfl rfl hl.1 rfl (lv_room (Nat.le_of_ble_eq_true rfl)) dX11_earns_5 ⟨Nat.le_of_ble_eq_true rfl, Nat.le_of_ble_eq_true rfl⟩) hS (fun q _ h => hFc q h) hFc (fun r_10 u t H locs ht hvm hw hB hz1 hk1 hS => ?_)
  refine W.widen (k := 0) (n := 0) (Nat.le_of_ble_eq_true rfl) (Nat.le_of_ble_eq_true rfl) ?_
  subst hw
  obtain ⟨hre_11, hP1, hK1, hD1⟩ := hB
  refine lq_top (v := 0) hre_11 ?_
  rw [ht] at hP1
  have hK1 := va_K.moved hvm.symm hK1
  obtain ⟨hP, hD⟩ := va_join (wr := [(h0, .inr (11, [.ref (a 1), .ref (a 2), .ref (a 3), .ref (a 4), .ref (a 5), .ref (a 6), .ref (a 7), .int 0, .ref (a 8), .int 0]))]) (w1 := [((a 1), .inr (1, [.ref (a 9), .int 0, .ref (a 10), .int 0, .ref (a 11), .int 0, .ref (a 12), .int 0]))]) hP hD [1] [0] rfl rfl (by decide) (by decide) hk1 hFc hP1 hD1
  have hK := (hK.sub (tys' := []) [] rfl).app hK1
  have hP : va_P (dC, dI) vwCl [(h0, .inr (11, [.ref (a 1), .ref (a 2), .ref (a 3), .ref (a 4), .ref (a 5), .ref (a 6), .ref (a 7), .int 0, .ref (a 8), .int 0])), ((a 1), .inr (1, [.ref (a 9), .int 0, .ref (a 10), .int 0, .ref (a 11), .int 0, .ref (a 12), .int 0]))] H := hP
  have hD : va_D A [(h0, .inr (11, [.ref (a 1), .ref (a 2), .ref (a 3), .ref (a 4), .ref (a 5), .ref (a 6), .ref (a 7), .int 0, .ref (a 8), .int 0])), ((a 1), .inr (1, [.ref (a 9), .int 0, .ref (a 10), .int 0, .ref (a 11), .int 0, .ref (a 12), .int 0]))] := hD
  have hK : va_K (dC, dI) vwCl [] s := hK
  refine lv_if_eq (tgt := 21) hx hb dX11_earns_8 (by decide) (fun c_12 => ?_) (fun c_12 => absurd c_12 (fun z => z (by decide)))
  exact ux_throwW hx hb hst hown (hts (.classLink RX11 171 "java/util/NoSuchElementException") (List.mem_cons_of_mem _ (List.mem_append_left _ (List.mem_of_getElem? (i := 5) rfl)))) (hts (.initialized "java/util/NoSuchElementException") (List.mem_cons_of_mem _ (List.mem_append_left _ (List.mem_of_getElem? (i := 6) rfl)))) (hM.2.2.1 13 _ rfl).1 (fun w h => hts w (List.mem_cons_of_mem _ (List.mem_append_right _ (List.mem_append_right _ (List.mem_append_right _ (List.mem_append_left _ h)))))) hM.2.2.2.2.2.2.1 hM.2.2.2.2.1 hM.2.2.2.2.2.1 hS (by rw [hml]; exact hl.1) dX11_earns_21 dX11_earns_24 dX11_earns_25 dX11_earns_28 dX11_earns_31 (fun x hx => (hex x hx).elim) (Nat.le_of_ble_eq_true rfl) (Nat.le_of_ble_eq_true rfl) (Nat.le_of_ble_eq_true rfl) (Nat.le_of_ble_eq_true rfl) hlocks (fun t ht hz hk => ⟨(), trivial, rfl, Nat.le_trans hS.1 hz, fun q h1 h2 => (hk q (Nat.lt_of_lt_of_le h1 hS.1)).trans (hS.2.1 q h1 h2)⟩) hS.2.2 (Nat.le_of_ble_eq_true rfl) (Nat.le_of_ble_eq_true rfl)
def wo_t_ill : List Cond := [.fieldLink RX11 10 "TypingPool" "book" "LTypingPool$Book;", .methodLink RX11 95 yX1_hasHand, .instanceMethod yX1_hasHand, .selects RX1 yX1_hasHand yX1_hasHand, .initialized RX1, .classLink RX11 171 "java/util/NoSuchElementException", .initialized "java/util/NoSuchElementException"]
def wm_t_ill : List Cond := .code yX11_ill cX11_ill 4 (some .int) :: (wo_t_ill ++ (wsX110 ++ (wm_c_hasHand0 ++ (ux_at ++ ([] : List Cond)))))
theorem gd_t_ill : ∀ w ∈ wm_t_ill, goodWord w = true := gd_c rfl (gd_a (by decide) (gd_a gd_wsX110 (gd_a gd_c_hasHand0 (gd_a gd_ux_at gd_nil))))
set_option maxRecDepth 20000 in
theorem im_t_ill : ∀ w ∈ wm_t_ill, w ∈ lw_tbl := im_c (in_r [.code yX11_ill cX11_ill 4 (some .int)] [1202] (by decide +kernel)) (in_app (in_r wo_t_ill [559, 629, 630, 631, 71, 1090, 94] (by decide +kernel)) (in_app im_wsX110 (in_app im_c_hasHand0 (in_app im_ux_at im_nil))))
set_option maxHeartbeats 4000000 in
set_option maxRecDepth 100000 in
theorem t_ill (l : Launch) (hst : l.stackTraces = false) (dC : Nat → ClassId) (dI : Nat → Nat → Nat) (ad av : Nat → Nat) (sz : Nat) (h0 : Nat) (a : Nat → Nat) (k : Nat → ClassId) (p0 : Int32) (p1 : Int32) : vx_Met l yX11_ill wm_t_ill ({ frames := 8, cells := 1, slots := 6, locals := 200 }) (pr_ ad av (dC, dI) sz [.ref h0, .int p0, .int p1] [(h0, .inr (11, [.ref (a 1), .ref (a 2), .ref (a 3), .ref (a 4), .ref (a 5), .ref (a 6), .ref (a 7), .int 0, .ref (a 8), .int 0])), ((a 1), .inr (1, [.ref (a 9), .int 0, .ref (a 10), .int 0, .ref (a 11), .int 0, .ref (a 12), .int 0]))] []) (va_Qi (fun (_ _ : Int32) => False) (fun (_ : Int32) (_ : State) => True) (va_A [(h0, .inr (11, [.ref (a 1), .ref (a 2), .ref (a 3), .ref (a 4), .ref (a 5), .ref (a 6), .ref (a 7), .int 0, .ref (a 8), .int 0])), ((a 1), .inr (1, [.ref (a 9), .int 0, .ref (a 10), .int 0, .ref (a 11), .int 0, .ref (a 12), .int 0]))] sz)) (vx_X (fun (_ : Unit) => True) (fun (E : String) (_ : Unit) (_ : State) => E = NSE) (va_A [(h0, .inr (11, [.ref (a 1), .ref (a 2), .ref (a 3), .ref (a 4), .ref (a 5), .ref (a 6), .ref (a 7), .int 0, .ref (a 8), .int 0])), ((a 1), .inr (1, [.ref (a 9), .int 0, .ref (a 10), .int 0, .ref (a 11), .int 0, .ref (a 12), .int 0]))] sz)) 1 6 (va_A [(h0, .inr (11, [.ref (a 1), .ref (a 2), .ref (a 3), .ref (a 4), .ref (a 5), .ref (a 6), .ref (a 7), .int 0, .ref (a 8), .int 0])), ((a 1), .inr (1, [.ref (a 9), .int 0, .ref (a 10), .int 0, .ref (a 11), .int 0, .ref (a 12), .int 0]))] sz) := by
  refine vx_ofW (cc := cX11_ill) (maxL := 4) (ret := (some .int)) (by decide) rfl ?_
  intro p e s m args below meth c s₁ B hml hex hv
  obtain ⟨rfl, hsz, hP, hK, hD0, hM⟩ := hv
  have hx := B.exec
  have hb := B.bytes
  have hr := B.returns
  have hts := atoms_spec (ws := wm_t_ill) B.pre
  have hown : s.vm.findClass RX11 = some m.cls := findClass_of_methodNamed B.named
  have hlocks := B.notSynchronized
  subst hsz
  have hD := hD0.self (sz := s.heap.size)
  generalize hAe : va_A [(h0, .inr (11, [.ref (a 1), .ref (a 2), .ref (a 3), .ref (a 4), .ref (a 5), .ref (a 6), .ref (a 7), .int 0, .ref (a 8), .int 0])), ((a 1), .inr (1, [.ref (a 9), .int 0, .ref (a 10), .int 0, .ref (a 11), .int 0, .ref (a 12), .int 0]))] s.heap.size = A at hD hM ⊢
  have hA : ∀ q : Nat, s.heap.size ≤ q → A q := fun q h => by rw [← hAe]; exact Or.inr h
  have hS : va_S A s.heap s.heap [] := va_S.rf
  have hP : va_P (dC, dI) vwCl [(h0, .inr (11, [.ref (a 1), .ref (a 2), .ref (a 3), .ref (a 4), .ref (a 5), .ref (a 6), .ref (a 7), .int 0, .ref (a 8), .int 0])), ((a 1), .inr (1, [.ref (a 9), .int 0, .ref (a 10), .int 0, .ref (a 11), .int 0, .ref (a 12), .int 0]))] s.heap := hP
  have hl := lv_entry ([.ref h0, .int p0, .int p1]) (n := 4) (Nat.le_of_ble_eq_true rfl)
  rw [lg_entry_eq]
  generalize (lg_sl ([.ref h0, .int p0, .int p1]) ++ List.replicate (4 - (lg_sl ([.ref h0, .int p0, .int p1])).length) Slot.unset).toArray = ls at hl ⊢
  have hl : lv_has ls 4 [(0, .ref h0), (1, .int p0), (2, .int p1)] := hl
  refine lv_aload_n hx hb dX11_ill_0 rfl (lv_at hl 0 rfl) ?_
  refine va_get (D := (dC, dI)) (ci := 11) (v := .ref (a 1)) (C := RX11) (T := TX11) (N := 10) hx hb hts (fun _ hh => (List.mem_cons_of_mem _ (List.mem_append_right _ (List.mem_append_left _ hh)))) hown hK hP 0 rfl rfl 0 (by decide) (hts (.fieldLink RX11 10 "TypingPool" "book" "LTypingPool$Book;") (List.mem_cons_of_mem _ (List.mem_append_left _ (List.mem_of_getElem? (i := 0) rfl)))) (fun _ h9 => h9) rfl dX11_ill_1 ?_
  refine lv_iload_n hx hb dX11_ill_4 rfl (lv_at hl 1 rfl) ?_
  have hPc := hP.sub (ws' := [((a 1), .inr (1, [.ref (a 9), .int 0, .ref (a 10), .int 0, .ref (a 11), .int 0, .ref (a 12), .int 0]))]) [1] rfl
  have hDc := hD.sub (ws' := [((a 1), .inr (1, [.ref (a 9), .int 0, .ref (a 10), .int 0, .ref (a 11), .int 0, .ref (a 12), .int 0]))]) [1] (by decide) rfl
  have hKc := hK.sub (tys' := []) [] rfl
  have hFc := va_free (wc := [((a 1), .inr (1, [.ref (a 9), .int 0, .ref (a 10), .int 0, .ref (a 11), .int 0, .ref (a 12), .int 0]))]) hD hS hA [1] rfl
  refine va_calli (va_runV (As := [.int p0]) (rest := []) ⟨hx, hb, hml, hown, hts⟩ (c_hasHand0 l dC dI ad av s.heap.size (a 1) (a 9) (a 10) (a 11) (a 12) p0 ) (cwV 1 hts (gi_4 (List.mem_cons_of_mem _ (List.mem_append_left _ (List.mem_of_getElem? (i := 1) rfl))) (List.mem_cons_of_mem _ (List.mem_append_left _ (List.mem_of_getElem? (i := 2) rfl))) (List.mem_cons_of_mem _ (List.mem_append_left _ (List.mem_of_getElem? (i := 3) rfl))) (List.mem_cons_of_mem _ (List.mem_append_left _ (List.mem_of_getElem? (i := 4) rfl))) (fun _ hh => (List.mem_cons_of_mem _ (List.mem_append_right _ (List.mem_append_right _ (List.mem_append_left _ hh))))) gd_c_hasHand0) rfl rfl rfl (by decide +kernel) ⟨Nat.le_of_ble_eq_true rfl, Nat.le_of_ble_eq_true rfl⟩) ⟨pr_blind, va_recv hKc hPc (ci := 1) (q0 := 0) rfl rfl, pr_use hPc hKc hDc hFc hS hM⟩ rfl rfl hl.1 rfl (lv_room (Nat.le_of_ble_eq_true rfl)) dX11_ill_5 ⟨Nat.le_of_ble_eq_true rfl, Nat.le_of_ble_eq_true rfl⟩) hS (fun q _ h => hFc q h) hFc (fun r_13 u t H locs ht hvm hw hB hz1 hk1 hS => ?_)
  refine W.widen (k := 0) (n := 0) (Nat.le_of_ble_eq_true rfl) (Nat.le_of_ble_eq_true rfl) ?_
  subst hw
  obtain ⟨hre_14, hP1, hK1, hD1⟩ := hB
  refine lq_top (v := 0) hre_14 ?_
  rw [ht] at hP1
  have hK1 := va_K.moved hvm.symm hK1
  obtain ⟨hP, hD⟩ := va_join (wr := [(h0, .inr (11, [.ref (a 1), .ref (a 2), .ref (a 3), .ref (a 4), .ref (a 5), .ref (a 6), .ref (a 7), .int 0, .ref (a 8), .int 0]))]) (w1 := [((a 1), .inr (1, [.ref (a 9), .int 0, .ref (a 10), .int 0, .ref (a 11), .int 0, .ref (a 12), .int 0]))]) hP hD [1] [0] rfl rfl (by decide) (by decide) hk1 hFc hP1 hD1
  have hK := (hK.sub (tys' := []) [] rfl).app hK1
  have hP : va_P (dC, dI) vwCl [(h0, .inr (11, [.ref (a 1), .ref (a 2), .ref (a 3), .ref (a 4), .ref (a 5), .ref (a 6), .ref (a 7), .int 0, .ref (a 8), .int 0])), ((a 1), .inr (1, [.ref (a 9), .int 0, .ref (a 10), .int 0, .ref (a 11), .int 0, .ref (a 12), .int 0]))] H := hP
  have hD : va_D A [(h0, .inr (11, [.ref (a 1), .ref (a 2), .ref (a 3), .ref (a 4), .ref (a 5), .ref (a 6), .ref (a 7), .int 0, .ref (a 8), .int 0])), ((a 1), .inr (1, [.ref (a 9), .int 0, .ref (a 10), .int 0, .ref (a 11), .int 0, .ref (a 12), .int 0]))] := hD
  have hK : va_K (dC, dI) vwCl [] s := hK
  refine lv_if_eq (tgt := 20) hx hb dX11_ill_8 (by decide) (fun c_15 => ?_) (fun c_15 => absurd c_15 (fun z => z (by decide)))
  exact ux_throwW hx hb hst hown (hts (.classLink RX11 171 "java/util/NoSuchElementException") (List.mem_cons_of_mem _ (List.mem_append_left _ (List.mem_of_getElem? (i := 5) rfl)))) (hts (.initialized "java/util/NoSuchElementException") (List.mem_cons_of_mem _ (List.mem_append_left _ (List.mem_of_getElem? (i := 6) rfl)))) (hM.2.2.1 14 _ rfl).1 (fun w h => hts w (List.mem_cons_of_mem _ (List.mem_append_right _ (List.mem_append_right _ (List.mem_append_right _ (List.mem_append_left _ h)))))) hM.2.2.2.2.2.2.1 hM.2.2.2.2.1 hM.2.2.2.2.2.1 hS (by rw [hml]; exact hl.1) dX11_ill_20 dX11_ill_23 dX11_ill_24 dX11_ill_27 dX11_ill_30 (fun x hx => (hex x hx).elim) (Nat.le_of_ble_eq_true rfl) (Nat.le_of_ble_eq_true rfl) (Nat.le_of_ble_eq_true rfl) (Nat.le_of_ble_eq_true rfl) hlocks (fun t ht hz hk => ⟨(), trivial, rfl, Nat.le_trans hS.1 hz, fun q h1 h2 => (hk q (Nat.lt_of_lt_of_le h1 hS.1)).trans (hS.2.1 q h1 h2)⟩) hS.2.2 (Nat.le_of_ble_eq_true rfl) (Nat.le_of_ble_eq_true rfl)
def wo_t_row : List Cond := [.classLink RX11 171 "java/util/NoSuchElementException", .initialized "java/util/NoSuchElementException", .fieldLink RX11 65 "TypingPool" "rowLength" "I"]
def wm_t_row : List Cond := .code yX11_row cX11_row 2 (some .int) :: (wo_t_row ++ (ux_at ++ (wsX110 ++ ([] : List Cond))))
theorem gd_t_row : ∀ w ∈ wm_t_row, goodWord w = true := gd_c rfl (gd_a (by decide) (gd_a gd_ux_at (gd_a gd_wsX110 gd_nil)))
set_option maxRecDepth 20000 in
theorem im_t_row : ∀ w ∈ wm_t_row, w ∈ lw_tbl := im_c (in_r [.code yX11_row cX11_row 2 (some .int)] [1210] (by decide +kernel)) (in_app (in_r wo_t_row [1090, 94, 568] (by decide +kernel)) (in_app im_ux_at (in_app im_wsX110 im_nil)))
set_option maxHeartbeats 4000000 in
set_option maxRecDepth 100000 in
theorem t_row (l : Launch) (hst : l.stackTraces = false) (dC : Nat → ClassId) (dI : Nat → Nat → Nat) (ad av : Nat → Nat) (sz : Nat) (h0 : Nat) (a : Nat → Nat) (k : Nat → ClassId) (p0 : Int32) : vx_Met l yX11_row wm_t_row ({ frames := 8, cells := 1, slots := 6, locals := 200 }) (pr_ ad av (dC, dI) sz [.ref h0, .int p0] [(h0, .inr (11, [.ref (a 1), .ref (a 2), .ref (a 3), .ref (a 4), .ref (a 5), .ref (a 6), .ref (a 7), .int 0, .ref (a 8), .int 0]))] []) (va_Qi (fun (_ _ : Int32) => False) (fun (_ : Int32) (_ : State) => True) (va_A [(h0, .inr (11, [.ref (a 1), .ref (a 2), .ref (a 3), .ref (a 4), .ref (a 5), .ref (a 6), .ref (a 7), .int 0, .ref (a 8), .int 0]))] sz)) (vx_X (fun (_ : Unit) => True) (fun (E : String) (_ : Unit) (_ : State) => E = NSE) (va_A [(h0, .inr (11, [.ref (a 1), .ref (a 2), .ref (a 3), .ref (a 4), .ref (a 5), .ref (a 6), .ref (a 7), .int 0, .ref (a 8), .int 0]))] sz)) 1 6 (va_A [(h0, .inr (11, [.ref (a 1), .ref (a 2), .ref (a 3), .ref (a 4), .ref (a 5), .ref (a 6), .ref (a 7), .int 0, .ref (a 8), .int 0]))] sz) := by
  refine vx_ofW (cc := cX11_row) (maxL := 2) (ret := (some .int)) (by decide) rfl ?_
  intro p e s m args below meth c s₁ B hml hex hv
  obtain ⟨rfl, hsz, hP, hK, hD0, hM⟩ := hv
  have hx := B.exec
  have hb := B.bytes
  have hr := B.returns
  have hts := atoms_spec (ws := wm_t_row) B.pre
  have hown : s.vm.findClass RX11 = some m.cls := findClass_of_methodNamed B.named
  have hlocks := B.notSynchronized
  subst hsz
  have hD := hD0.self (sz := s.heap.size)
  generalize hAe : va_A [(h0, .inr (11, [.ref (a 1), .ref (a 2), .ref (a 3), .ref (a 4), .ref (a 5), .ref (a 6), .ref (a 7), .int 0, .ref (a 8), .int 0]))] s.heap.size = A at hD hM ⊢
  have hA : ∀ q : Nat, s.heap.size ≤ q → A q := fun q h => by rw [← hAe]; exact Or.inr h
  have hS : va_S A s.heap s.heap [] := va_S.rf
  have hP : va_P (dC, dI) vwCl [(h0, .inr (11, [.ref (a 1), .ref (a 2), .ref (a 3), .ref (a 4), .ref (a 5), .ref (a 6), .ref (a 7), .int 0, .ref (a 8), .int 0]))] s.heap := hP
  have hl := lv_entry ([.ref h0, .int p0]) (n := 2) (Nat.le_of_ble_eq_true rfl)
  rw [lg_entry_eq]
  generalize (lg_sl ([.ref h0, .int p0]) ++ List.replicate (2 - (lg_sl ([.ref h0, .int p0])).length) Slot.unset).toArray = ls at hl ⊢
  have hl : lv_has ls 2 [(0, .ref h0), (1, .int p0)] := hl
  refine lv_iload_n hx hb dX11_row_0 rfl (lv_at hl 1 rfl) ?_
  refine lv_if_lt (tgt := 12) hx hb dX11_row_1 (by decide) (fun c_16 => ?_) (fun c_16 => ?_)
  · exact ux_throwW hx hb hst hown (hts (.classLink RX11 171 "java/util/NoSuchElementException") (List.mem_cons_of_mem _ (List.mem_append_left _ (List.mem_of_getElem? (i := 0) rfl)))) (hts (.initialized "java/util/NoSuchElementException") (List.mem_cons_of_mem _ (List.mem_append_left _ (List.mem_of_getElem? (i := 1) rfl)))) (hM.2.2.1 15 _ rfl).1 (fun w h => hts w (List.mem_cons_of_mem _ (List.mem_append_right _ (List.mem_append_left _ h)))) hM.2.2.2.2.2.2.1 hM.2.2.2.2.1 hM.2.2.2.2.2.1 hS (by rw [hml]; exact hl.1) dX11_row_12 dX11_row_15 dX11_row_16 dX11_row_19 dX11_row_22 (fun x hx => (hex x hx).elim) (Nat.le_of_ble_eq_true rfl) (Nat.le_of_ble_eq_true rfl) (Nat.le_of_ble_eq_true rfl) (Nat.le_of_ble_eq_true rfl) hlocks (fun t ht hz hk => ⟨(), trivial, rfl, Nat.le_trans hS.1 hz, fun q h1 h2 => (hk q (Nat.lt_of_lt_of_le h1 hS.1)).trans (hS.2.1 q h1 h2)⟩) hS.2.2 (Nat.le_of_ble_eq_true rfl) (Nat.le_of_ble_eq_true rfl)
  · refine lv_iload_n hx hb dX11_row_4 rfl (lv_at hl 1 rfl) ?_
    refine lv_aload_n hx hb dX11_row_5 rfl (lv_at hl 0 rfl) ?_
    refine va_get (D := (dC, dI)) (ci := 11) (v := .int 0) (C := RX11) (T := TX11) (N := 10) hx hb hts (fun _ hh => (List.mem_cons_of_mem _ (List.mem_append_right _ (List.mem_append_right _ (List.mem_append_left _ hh))))) hown hK hP 0 rfl rfl 9 (by decide) (hts (.fieldLink RX11 65 "TypingPool" "rowLength" "I") (List.mem_cons_of_mem _ (List.mem_append_left _ (List.mem_of_getElem? (i := 2) rfl)))) (fun _ h9 => h9) rfl dX11_row_6 ?_
    refine lv_icmp_lt (tgt := 23) hx hb dX11_row_9 (by decide) (fun c_17 => absurd c_17 c_16) (fun c_17 => ?_)
    exact ux_throwW hx hb hst hown (hts (.classLink RX11 171 "java/util/NoSuchElementException") (List.mem_cons_of_mem _ (List.mem_append_left _ (List.mem_of_getElem? (i := 0) rfl)))) (hts (.initialized "java/util/NoSuchElementException") (List.mem_cons_of_mem _ (List.mem_append_left _ (List.mem_of_getElem? (i := 1) rfl)))) (hM.2.2.1 15 _ rfl).1 (fun w h => hts w (List.mem_cons_of_mem _ (List.mem_append_right _ (List.mem_append_left _ h)))) hM.2.2.2.2.2.2.1 hM.2.2.2.2.1 hM.2.2.2.2.2.1 hS (by rw [hml]; exact hl.1) dX11_row_12 dX11_row_15 dX11_row_16 dX11_row_19 dX11_row_22 (fun x hx => (hex x hx).elim) (Nat.le_of_ble_eq_true rfl) (Nat.le_of_ble_eq_true rfl) (Nat.le_of_ble_eq_true rfl) (Nat.le_of_ble_eq_true rfl) hlocks (fun t ht hz hk => ⟨(), trivial, rfl, Nat.le_trans hS.1 hz, fun q h1 h2 => (hk q (Nat.lt_of_lt_of_le h1 hS.1)).trans (hS.2.1 q h1 h2)⟩) hS.2.2 (Nat.le_of_ble_eq_true rfl) (Nat.le_of_ble_eq_true rfl)
def wo_k_of : List Cond := [.methodLink RL 7 yX11_of, .instanceMethod yX11_of, .selects RX11 yX11_of yX11_of, .initialized RX11, .classLink RL 13 "java/util/NoSuchElementException"]
def wm_k_of : List Cond := .codeWith yL_of cL_of 5 (some .int) [(0, 10, 13, 13)] :: (wo_k_of ++ (wm_t_of ++ ([] : List Cond)))
theorem gd_k_of : ∀ w ∈ wm_k_of, goodWord w = true := gd_c rfl (gd_a (by decide) (gd_a gd_t_of gd_nil))
set_option maxRecDepth 20000 in
theorem im_k_of : ∀ w ∈ wm_k_of, w ∈ lw_tbl := im_c (in_r [.codeWith yL_of cL_of 5 (some .int) [(0, 10, 13, 13)]] [1084] (by decide +kernel)) (in_app (in_r wo_k_of [1086, 1087, 1088, 70, 1085] (by decide +kernel)) (in_app im_t_of im_nil))
set_option maxHeartbeats 4000000 in
set_option maxRecDepth 100000 in
theorem k_of (l : Launch) (hst : l.stackTraces = false) (dC : Nat → ClassId) (dI : Nat → Nat → Nat) (ad av : Nat → Nat) (sz : Nat) (h0 : Nat) (a : Nat → Nat) (k : Nat → ClassId) (o0 : Nat) (p0 : Int32) (p1 : Int32) : Met l yL_of wm_k_of ({ frames := 10, cells := 1, slots := 6, locals := 300 }) (pr_ ad av (dC, dI) sz [.ref h0, .int p0, .int p1, .ref o0] [(h0, .inr (11, [.ref (a 1), .ref (a 2), .ref (a 3), .ref (a 4), .ref (a 5), .ref (a 6), .ref (a 7), .int 0, .ref (a 8), .int 0])), ((a 1), .inr (1, [.ref (a 9), .int 0, .ref (a 10), .int 0, .ref (a 11), .int 0, .ref (a 12), .int 0]))] []) (va_Qi (fun (r u : Int32) => u = r) (fun (r : Int32) (t : State) => (r = 1)) (va_A [(h0, .inr (11, [.ref (a 1), .ref (a 2), .ref (a 3), .ref (a 4), .ref (a 5), .ref (a 6), .ref (a 7), .int 0, .ref (a 8), .int 0])), ((a 1), .inr (1, [.ref (a 9), .int 0, .ref (a 10), .int 0, .ref (a 11), .int 0, .ref (a 12), .int 0]))] sz)) 1 6 (va_A [(h0, .inr (11, [.ref (a 1), .ref (a 2), .ref (a 3), .ref (a 4), .ref (a 5), .ref (a 6), .ref (a 7), .int 0, .ref (a 8), .int 0])), ((a 1), .inr (1, [.ref (a 9), .int 0, .ref (a 10), .int 0, .ref (a 11), .int 0, .ref (a 12), .int 0]))] sz) := by
  refine va_MetW (cc := cL_of) (maxL := 5) (ret := (some .int)) (by decide) rfl ?_
  intro p e s m args below meth c s₁ B hml hv
  obtain ⟨rfl, hsz, hP, hK, hD0, hM⟩ := hv
  have hx := B.exec
  have hb := B.bytes
  have hr := B.returns
  have hts := atoms_spec (ws := wm_k_of) B.pre
  have hown : s.vm.findClass RL = some m.cls := findClass_of_methodNamed B.named
  have hlocks := B.notSynchronized
  subst hsz
  have hD := hD0.self (sz := s.heap.size)
  generalize hAe : va_A [(h0, .inr (11, [.ref (a 1), .ref (a 2), .ref (a 3), .ref (a 4), .ref (a 5), .ref (a 6), .ref (a 7), .int 0, .ref (a 8), .int 0])), ((a 1), .inr (1, [.ref (a 9), .int 0, .ref (a 10), .int 0, .ref (a 11), .int 0, .ref (a 12), .int 0]))] s.heap.size = A at hD hM ⊢
  have hA : ∀ q : Nat, s.heap.size ≤ q → A q := fun q h => by rw [← hAe]; exact Or.inr h
  have hS : va_S A s.heap s.heap [] := va_S.rf
  have hP : va_P (dC, dI) vwCl [(h0, .inr (11, [.ref (a 1), .ref (a 2), .ref (a 3), .ref (a 4), .ref (a 5), .ref (a 6), .ref (a 7), .int 0, .ref (a 8), .int 0])), ((a 1), .inr (1, [.ref (a 9), .int 0, .ref (a 10), .int 0, .ref (a 11), .int 0, .ref (a 12), .int 0]))] s.heap := hP
  have hl := lv_entry ([.ref h0, .int p0, .int p1, .ref o0]) (n := 5) (Nat.le_of_ble_eq_true rfl)
  rw [lg_entry_eq]
  generalize (lg_sl ([.ref h0, .int p0, .int p1, .ref o0]) ++ List.replicate (5 - (lg_sl ([.ref h0, .int p0, .int p1, .ref o0])).length) Slot.unset).toArray = ls at hl ⊢
  have hl : lv_has ls 5 [(0, .ref h0), (1, .int p0), (2, .int p1), (3, .ref o0)] := hl
  refine lv_aload_n hx hb dL_of_0 rfl (lv_at hl 3 rfl) ?_
  refine lv_iconst (v := 0) hx hb dL_of_1 (by decide) ?_
  refine lv_aload_n hx hb dL_of_2 rfl (lv_at hl 0 rfl) ?_
  refine lv_iload_n hx hb dL_of_3 rfl (lv_at hl 1 rfl) ?_
  refine lv_iload_n hx hb dL_of_4 rfl (lv_at hl 2 rfl) ?_
  have hPc := hP.sub (ws' := [(h0, .inr (11, [.ref (a 1), .ref (a 2), .ref (a 3), .ref (a 4), .ref (a 5), .ref (a 6), .ref (a 7), .int 0, .ref (a 8), .int 0])), ((a 1), .inr (1, [.ref (a 9), .int 0, .ref (a 10), .int 0, .ref (a 11), .int 0, .ref (a 12), .int 0]))]) [0, 1] rfl
  have hDc := hD.sub (ws' := [(h0, .inr (11, [.ref (a 1), .ref (a 2), .ref (a 3), .ref (a 4), .ref (a 5), .ref (a 6), .ref (a 7), .int 0, .ref (a 8), .int 0])), ((a 1), .inr (1, [.ref (a 9), .int 0, .ref (a 10), .int 0, .ref (a 11), .int 0, .ref (a 12), .int 0]))]) [0, 1] (by decide) rfl
  have hKc := hK.sub (tys' := []) [] rfl
  have hFc := va_free (wc := [(h0, .inr (11, [.ref (a 1), .ref (a 2), .ref (a 3), .ref (a 4), .ref (a 5), .ref (a 6), .ref (a 7), .int 0, .ref (a 8), .int 0])), ((a 1), .inr (1, [.ref (a 9), .int 0, .ref (a 10), .int 0, .ref (a 11), .int 0, .ref (a 12), .int 0]))]) hD hS hA [0, 1] rfl
  have htb := vx_table (x := yL_of) B (hts _ List.mem_cons_self)
  refine vx_calli (vx_runV (As := [.int p0, .int p1]) (rest := [.int 0, .ref o0]) ⟨hx, hb, hml, hown, hts⟩ (t_of l hst dC dI ad av s.heap.size h0 a (fun _ => dC 0) p0 p1) (cwV 2 hts (gi_4 (List.mem_cons_of_mem _ (List.mem_append_left _ (List.mem_of_getElem? (i := 0) rfl))) (List.mem_cons_of_mem _ (List.mem_append_left _ (List.mem_of_getElem? (i := 1) rfl))) (List.mem_cons_of_mem _ (List.mem_append_left _ (List.mem_of_getElem? (i := 2) rfl))) (List.mem_cons_of_mem _ (List.mem_append_left _ (List.mem_of_getElem? (i := 3) rfl))) (fun _ hh => (List.mem_cons_of_mem _ (List.mem_append_right _ (List.mem_append_left _ hh)))) gd_t_of) rfl rfl rfl (by decide +kernel) ⟨Nat.le_of_ble_eq_true rfl, Nat.le_of_ble_eq_true rfl⟩) ⟨pr_blind, va_recv hKc hPc (ci := 11) (q0 := 0) rfl rfl, pr_use hPc hKc hDc hFc hS hM⟩ rfl rfl hl.1 rfl (lv_room (Nat.le_of_ble_eq_true rfl)) dL_of_5 ⟨Nat.le_of_ble_eq_true rfl, Nat.le_of_ble_eq_true rfl⟩) hS (fun q _ h => hFc q h) hFc (fun q _ h => hFc q h) (fun E ce q9 u t H locs ht hvm hpx hBX hz1 hk1 hS hce hcv hcl => ?_) (fun r u t H locs ht hvm hw hB hz1 hk1 hS => hw.elim)
  subst hBX
  refine vx_widen (k := 1) (n := 6) (Nat.le_of_ble_eq_true rfl) (Nat.le_of_ble_eq_true rfl) ?_
  refine ux_catch (name := NSE) hown _ [] htb (by decide) (by decide) (hts (.classLink RL 13 "java/util/NoSuchElementException") (List.mem_cons_of_mem _ (List.mem_append_left _ (List.mem_of_getElem? (i := 4) rfl)))) (va_Nw.use rfl hM.2.2.2.2.2.2.1.2.2.2) hce hcv hcl ?_
  refine W.eq (g2 := F0 m 13 ls [.ref q9]) rfl ?_
  refine lv_astore (lv' := [(4, .ref q9), (0, .ref h0), (1, .int p0), (2, .int p1), (3, .ref o0)]) hx hb dL_of_13 hl (by decide) rfl (fun ls hl => ?_)
  refine lv_iconst (v := 1) hx hb dL_of_15 (by decide) ?_
  exact W.iret (v := 1) hx hb hr (fun t ht hW => ⟨⟨1, 1, rfl, rfl, rfl⟩, hS.F ht⟩) hS.2.2 dL_of_16
def wo_k_order : List Cond := [.methodLink RL 15 yX11_order, .instanceMethod yX11_order, .selects RX11 yX11_order yX11_order, .initialized RX11, .classLink RL 13 "java/util/NoSuchElementException"]
def wm_k_order : List Cond := .codeWith yL_order cL_order 5 (some .int) [(0, 10, 13, 13)] :: (wo_k_order ++ (wm_t_order ++ ([] : List Cond)))
theorem gd_k_order : ∀ w ∈ wm_k_order, goodWord w = true := gd_c rfl (gd_a (by decide) (gd_a gd_t_order gd_nil))
set_option maxRecDepth 20000 in
theorem im_k_order : ∀ w ∈ wm_k_order, w ∈ lw_tbl := im_c (in_r [.codeWith yL_order cL_order 5 (some .int) [(0, 10, 13, 13)]] [1163] (by decide +kernel)) (in_app (in_r wo_k_order [1164, 1165, 1166, 70, 1085] (by decide +kernel)) (in_app im_t_order im_nil))
set_option maxHeartbeats 4000000 in
set_option maxRecDepth 100000 in
theorem k_order (l : Launch) (hst : l.stackTraces = false) (dC : Nat → ClassId) (dI : Nat → Nat → Nat) (ad av : Nat → Nat) (sz : Nat) (h0 : Nat) (a : Nat → Nat) (k : Nat → ClassId) (o0 : Nat) (p0 : Int32) (p1 : Int32) : Met l yL_order wm_k_order ({ frames := 10, cells := 1, slots := 6, locals := 300 }) (pr_ ad av (dC, dI) sz [.ref h0, .int p0, .int p1, .ref o0] [(h0, .inr (11, [.ref (a 1), .ref (a 2), .ref (a 3), .ref (a 4), .ref (a 5), .ref (a 6), .ref (a 7), .int 0, .ref (a 8), .int 0])), ((a 1), .inr (1, [.ref (a 9), .int 0, .ref (a 10), .int 0, .ref (a 11), .int 0, .ref (a 12), .int 0]))] []) (va_Qi (fun (r u : Int32) => u = r) (fun (r : Int32) (t : State) => (r = 1)) (va_A [(h0, .inr (11, [.ref (a 1), .ref (a 2), .ref (a 3), .ref (a 4), .ref (a 5), .ref (a 6), .ref (a 7), .int 0, .ref (a 8), .int 0])), ((a 1), .inr (1, [.ref (a 9), .int 0, .ref (a 10), .int 0, .ref (a 11), .int 0, .ref (a 12), .int 0]))] sz)) 1 6 (va_A [(h0, .inr (11, [.ref (a 1), .ref (a 2), .ref (a 3), .ref (a 4), .ref (a 5), .ref (a 6), .ref (a 7), .int 0, .ref (a 8), .int 0])), ((a 1), .inr (1, [.ref (a 9), .int 0, .ref (a 10), .int 0, .ref (a 11), .int 0, .ref (a 12), .int 0]))] sz) := by
  refine va_MetW (cc := cL_order) (maxL := 5) (ret := (some .int)) (by decide) rfl ?_
  intro p e s m args below meth c s₁ B hml hv
  obtain ⟨rfl, hsz, hP, hK, hD0, hM⟩ := hv
  have hx := B.exec
  have hb := B.bytes
  have hr := B.returns
  have hts := atoms_spec (ws := wm_k_order) B.pre
  have hown : s.vm.findClass RL = some m.cls := findClass_of_methodNamed B.named
  have hlocks := B.notSynchronized
  subst hsz
  have hD := hD0.self (sz := s.heap.size)
  generalize hAe : va_A [(h0, .inr (11, [.ref (a 1), .ref (a 2), .ref (a 3), .ref (a 4), .ref (a 5), .ref (a 6), .ref (a 7), .int 0, .ref (a 8), .int 0])), ((a 1), .inr (1, [.ref (a 9), .int 0, .ref (a 10), .int 0, .ref (a 11), .int 0, .ref (a 12), .int 0]))] s.heap.size = A at hD hM ⊢
  have hA : ∀ q : Nat, s.heap.size ≤ q → A q := fun q h => by rw [← hAe]; exact Or.inr h
  have hS : va_S A s.heap s.heap [] := va_S.rf
  have hP : va_P (dC, dI) vwCl [(h0, .inr (11, [.ref (a 1), .ref (a 2), .ref (a 3), .ref (a 4), .ref (a 5), .ref (a 6), .ref (a 7), .int 0, .ref (a 8), .int 0])), ((a 1), .inr (1, [.ref (a 9), .int 0, .ref (a 10), .int 0, .ref (a 11), .int 0, .ref (a 12), .int 0]))] s.heap := hP
  have hl := lv_entry ([.ref h0, .int p0, .int p1, .ref o0]) (n := 5) (Nat.le_of_ble_eq_true rfl)
  rw [lg_entry_eq]
  generalize (lg_sl ([.ref h0, .int p0, .int p1, .ref o0]) ++ List.replicate (5 - (lg_sl ([.ref h0, .int p0, .int p1, .ref o0])).length) Slot.unset).toArray = ls at hl ⊢
  have hl : lv_has ls 5 [(0, .ref h0), (1, .int p0), (2, .int p1), (3, .ref o0)] := hl
  refine lv_aload_n hx hb dL_order_0 rfl (lv_at hl 3 rfl) ?_
  refine lv_iconst (v := 0) hx hb dL_order_1 (by decide) ?_
  refine lv_aload_n hx hb dL_order_2 rfl (lv_at hl 0 rfl) ?_
  refine lv_iload_n hx hb dL_order_3 rfl (lv_at hl 1 rfl) ?_
  refine lv_iload_n hx hb dL_order_4 rfl (lv_at hl 2 rfl) ?_
  have hPc := hP.sub (ws' := [(h0, .inr (11, [.ref (a 1), .ref (a 2), .ref (a 3), .ref (a 4), .ref (a 5), .ref (a 6), .ref (a 7), .int 0, .ref (a 8), .int 0])), ((a 1), .inr (1, [.ref (a 9), .int 0, .ref (a 10), .int 0, .ref (a 11), .int 0, .ref (a 12), .int 0]))]) [0, 1] rfl
  have hDc := hD.sub (ws' := [(h0, .inr (11, [.ref (a 1), .ref (a 2), .ref (a 3), .ref (a 4), .ref (a 5), .ref (a 6), .ref (a 7), .int 0, .ref (a 8), .int 0])), ((a 1), .inr (1, [.ref (a 9), .int 0, .ref (a 10), .int 0, .ref (a 11), .int 0, .ref (a 12), .int 0]))]) [0, 1] (by decide) rfl
  have hKc := hK.sub (tys' := []) [] rfl
  have hFc := va_free (wc := [(h0, .inr (11, [.ref (a 1), .ref (a 2), .ref (a 3), .ref (a 4), .ref (a 5), .ref (a 6), .ref (a 7), .int 0, .ref (a 8), .int 0])), ((a 1), .inr (1, [.ref (a 9), .int 0, .ref (a 10), .int 0, .ref (a 11), .int 0, .ref (a 12), .int 0]))]) hD hS hA [0, 1] rfl
  have htb := vx_table (x := yL_order) B (hts _ List.mem_cons_self)
  refine vx_calli (vx_runV (As := [.int p0, .int p1]) (rest := [.int 0, .ref o0]) ⟨hx, hb, hml, hown, hts⟩ (t_order l hst dC dI ad av s.heap.size h0 a (fun _ => dC 0) p0 p1) (cwV 2 hts (gi_4 (List.mem_cons_of_mem _ (List.mem_append_left _ (List.mem_of_getElem? (i := 0) rfl))) (List.mem_cons_of_mem _ (List.mem_append_left _ (List.mem_of_getElem? (i := 1) rfl))) (List.mem_cons_of_mem _ (List.mem_append_left _ (List.mem_of_getElem? (i := 2) rfl))) (List.mem_cons_of_mem _ (List.mem_append_left _ (List.mem_of_getElem? (i := 3) rfl))) (fun _ hh => (List.mem_cons_of_mem _ (List.mem_append_right _ (List.mem_append_left _ hh)))) gd_t_order) rfl rfl rfl (by decide +kernel) ⟨Nat.le_of_ble_eq_true rfl, Nat.le_of_ble_eq_true rfl⟩) ⟨pr_blind, va_recv hKc hPc (ci := 11) (q0 := 0) rfl rfl, pr_use hPc hKc hDc hFc hS hM⟩ rfl rfl hl.1 rfl (lv_room (Nat.le_of_ble_eq_true rfl)) dL_order_5 ⟨Nat.le_of_ble_eq_true rfl, Nat.le_of_ble_eq_true rfl⟩) hS (fun q _ h => hFc q h) hFc (fun q _ h => hFc q h) (fun E ce q9 u t H locs ht hvm hpx hBX hz1 hk1 hS hce hcv hcl => ?_) (fun r u t H locs ht hvm hw hB hz1 hk1 hS => hw.elim)
  subst hBX
  refine vx_widen (k := 1) (n := 6) (Nat.le_of_ble_eq_true rfl) (Nat.le_of_ble_eq_true rfl) ?_
  refine ux_catch (name := NSE) hown _ [] htb (by decide) (by decide) (hts (.classLink RL 13 "java/util/NoSuchElementException") (List.mem_cons_of_mem _ (List.mem_append_left _ (List.mem_of_getElem? (i := 4) rfl)))) (va_Nw.use rfl hM.2.2.2.2.2.2.1.2.2.2) hce hcv hcl ?_
  refine W.eq (g2 := F0 m 13 ls [.ref q9]) rfl ?_
  refine lv_astore (lv' := [(4, .ref q9), (0, .ref h0), (1, .int p0), (2, .int p1), (3, .ref o0)]) hx hb dL_order_13 hl (by decide) rfl (fun ls hl => ?_)
  refine lv_iconst (v := 1) hx hb dL_order_15 (by decide) ?_
  exact W.iret (v := 1) hx hb hr (fun t ht hW => ⟨⟨1, 1, rfl, rfl, rfl⟩, hS.F ht⟩) hS.2.2 dL_order_16
def wo_k_pay : List Cond := [.methodLink RL 18 yX11_pay, .instanceMethod yX11_pay, .selects RX11 yX11_pay yX11_pay, .initialized RX11, .classLink RL 13 "java/util/NoSuchElementException"]
def wm_k_pay : List Cond := .codeWith yL_pay cL_pay 4 (some .int) [(0, 9, 12, 13)] :: (wo_k_pay ++ (wm_t_pay ++ ([] : List Cond)))
theorem gd_k_pay : ∀ w ∈ wm_k_pay, goodWord w = true := gd_c rfl (gd_a (by decide) (gd_a gd_t_pay gd_nil))
set_option maxRecDepth 20000 in
theorem im_k_pay : ∀ w ∈ wm_k_pay, w ∈ lw_tbl := im_c (in_r [.codeWith yL_pay cL_pay 4 (some .int) [(0, 9, 12, 13)]] [1172] (by decide +kernel)) (in_app (in_r wo_k_pay [1173, 1174, 1175, 70, 1085] (by decide +kernel)) (in_app im_t_pay im_nil))
set_option maxHeartbeats 4000000 in
set_option maxRecDepth 100000 in
theorem k_pay (l : Launch) (hst : l.stackTraces = false) (dC : Nat → ClassId) (dI : Nat → Nat → Nat) (ad av : Nat → Nat) (sz : Nat) (h0 : Nat) (a : Nat → Nat) (k : Nat → ClassId) (o0 : Nat) (p0 : Int32) : Met l yL_pay wm_k_pay ({ frames := 10, cells := 1, slots := 6, locals := 300 }) (pr_ ad av (dC, dI) sz [.ref h0, .int p0, .ref o0] [(h0, .inr (11, [.ref (a 1), .ref (a 2), .ref (a 3), .ref (a 4), .ref (a 5), .ref (a 6), .ref (a 7), .int 0, .ref (a 8), .int 0])), ((a 1), .inr (1, [.ref (a 9), .int 0, .ref (a 10), .int 0, .ref (a 11), .int 0, .ref (a 12), .int 0]))] []) (va_Qi (fun (r u : Int32) => u = r) (fun (r : Int32) (t : State) => (r = 1)) (va_A [(h0, .inr (11, [.ref (a 1), .ref (a 2), .ref (a 3), .ref (a 4), .ref (a 5), .ref (a 6), .ref (a 7), .int 0, .ref (a 8), .int 0])), ((a 1), .inr (1, [.ref (a 9), .int 0, .ref (a 10), .int 0, .ref (a 11), .int 0, .ref (a 12), .int 0]))] sz)) 1 6 (va_A [(h0, .inr (11, [.ref (a 1), .ref (a 2), .ref (a 3), .ref (a 4), .ref (a 5), .ref (a 6), .ref (a 7), .int 0, .ref (a 8), .int 0])), ((a 1), .inr (1, [.ref (a 9), .int 0, .ref (a 10), .int 0, .ref (a 11), .int 0, .ref (a 12), .int 0]))] sz) := by
  refine va_MetW (cc := cL_pay) (maxL := 4) (ret := (some .int)) (by decide) rfl ?_
  intro p e s m args below meth c s₁ B hml hv
  obtain ⟨rfl, hsz, hP, hK, hD0, hM⟩ := hv
  have hx := B.exec
  have hb := B.bytes
  have hr := B.returns
  have hts := atoms_spec (ws := wm_k_pay) B.pre
  have hown : s.vm.findClass RL = some m.cls := findClass_of_methodNamed B.named
  have hlocks := B.notSynchronized
  subst hsz
  have hD := hD0.self (sz := s.heap.size)
  generalize hAe : va_A [(h0, .inr (11, [.ref (a 1), .ref (a 2), .ref (a 3), .ref (a 4), .ref (a 5), .ref (a 6), .ref (a 7), .int 0, .ref (a 8), .int 0])), ((a 1), .inr (1, [.ref (a 9), .int 0, .ref (a 10), .int 0, .ref (a 11), .int 0, .ref (a 12), .int 0]))] s.heap.size = A at hD hM ⊢
  have hA : ∀ q : Nat, s.heap.size ≤ q → A q := fun q h => by rw [← hAe]; exact Or.inr h
  have hS : va_S A s.heap s.heap [] := va_S.rf
  have hP : va_P (dC, dI) vwCl [(h0, .inr (11, [.ref (a 1), .ref (a 2), .ref (a 3), .ref (a 4), .ref (a 5), .ref (a 6), .ref (a 7), .int 0, .ref (a 8), .int 0])), ((a 1), .inr (1, [.ref (a 9), .int 0, .ref (a 10), .int 0, .ref (a 11), .int 0, .ref (a 12), .int 0]))] s.heap := hP
  have hl := lv_entry ([.ref h0, .int p0, .ref o0]) (n := 4) (Nat.le_of_ble_eq_true rfl)
  rw [lg_entry_eq]
  generalize (lg_sl ([.ref h0, .int p0, .ref o0]) ++ List.replicate (4 - (lg_sl ([.ref h0, .int p0, .ref o0])).length) Slot.unset).toArray = ls at hl ⊢
  have hl : lv_has ls 4 [(0, .ref h0), (1, .int p0), (2, .ref o0)] := hl
  refine lv_aload_n hx hb dL_pay_0 rfl (lv_at hl 2 rfl) ?_
  refine lv_iconst (v := 0) hx hb dL_pay_1 (by decide) ?_
  refine lv_aload_n hx hb dL_pay_2 rfl (lv_at hl 0 rfl) ?_
  refine lv_iload_n hx hb dL_pay_3 rfl (lv_at hl 1 rfl) ?_
  have hPc := hP.sub (ws' := [(h0, .inr (11, [.ref (a 1), .ref (a 2), .ref (a 3), .ref (a 4), .ref (a 5), .ref (a 6), .ref (a 7), .int 0, .ref (a 8), .int 0])), ((a 1), .inr (1, [.ref (a 9), .int 0, .ref (a 10), .int 0, .ref (a 11), .int 0, .ref (a 12), .int 0]))]) [0, 1] rfl
  have hDc := hD.sub (ws' := [(h0, .inr (11, [.ref (a 1), .ref (a 2), .ref (a 3), .ref (a 4), .ref (a 5), .ref (a 6), .ref (a 7), .int 0, .ref (a 8), .int 0])), ((a 1), .inr (1, [.ref (a 9), .int 0, .ref (a 10), .int 0, .ref (a 11), .int 0, .ref (a 12), .int 0]))]) [0, 1] (by decide) rfl
  have hKc := hK.sub (tys' := []) [] rfl
  have hFc := va_free (wc := [(h0, .inr (11, [.ref (a 1), .ref (a 2), .ref (a 3), .ref (a 4), .ref (a 5), .ref (a 6), .ref (a 7), .int 0, .ref (a 8), .int 0])), ((a 1), .inr (1, [.ref (a 9), .int 0, .ref (a 10), .int 0, .ref (a 11), .int 0, .ref (a 12), .int 0]))]) hD hS hA [0, 1] rfl
  have htb := vx_table (x := yL_pay) B (hts _ List.mem_cons_self)
  refine vx_calli (vx_runV (As := [.int p0]) (rest := [.int 0, .ref o0]) ⟨hx, hb, hml, hown, hts⟩ (t_pay l hst dC dI ad av s.heap.size h0 a (fun _ => dC 0) p0) (cwV 1 hts (gi_4 (List.mem_cons_of_mem _ (List.mem_append_left _ (List.mem_of_getElem? (i := 0) rfl))) (List.mem_cons_of_mem _ (List.mem_append_left _ (List.mem_of_getElem? (i := 1) rfl))) (List.mem_cons_of_mem _ (List.mem_append_left _ (List.mem_of_getElem? (i := 2) rfl))) (List.mem_cons_of_mem _ (List.mem_append_left _ (List.mem_of_getElem? (i := 3) rfl))) (fun _ hh => (List.mem_cons_of_mem _ (List.mem_append_right _ (List.mem_append_left _ hh)))) gd_t_pay) rfl rfl rfl (by decide +kernel) ⟨Nat.le_of_ble_eq_true rfl, Nat.le_of_ble_eq_true rfl⟩) ⟨pr_blind, va_recv hKc hPc (ci := 11) (q0 := 0) rfl rfl, pr_use hPc hKc hDc hFc hS hM⟩ rfl rfl hl.1 rfl (lv_room (Nat.le_of_ble_eq_true rfl)) dL_pay_4 ⟨Nat.le_of_ble_eq_true rfl, Nat.le_of_ble_eq_true rfl⟩) hS (fun q _ h => hFc q h) hFc (fun q _ h => hFc q h) (fun E ce q9 u t H locs ht hvm hpx hBX hz1 hk1 hS hce hcv hcl => ?_) (fun r u t H locs ht hvm hw hB hz1 hk1 hS => hw.elim)
  subst hBX
  refine vx_widen (k := 1) (n := 6) (Nat.le_of_ble_eq_true rfl) (Nat.le_of_ble_eq_true rfl) ?_
  refine ux_catch (name := NSE) hown _ [] htb (by decide) (by decide) (hts (.classLink RL 13 "java/util/NoSuchElementException") (List.mem_cons_of_mem _ (List.mem_append_left _ (List.mem_of_getElem? (i := 4) rfl)))) (va_Nw.use rfl hM.2.2.2.2.2.2.1.2.2.2) hce hcv hcl ?_
  refine W.eq (g2 := F0 m 12 ls [.ref q9]) rfl ?_
  refine lv_astore_n (lv' := [(3, .ref q9), (0, .ref h0), (1, .int p0), (2, .ref o0)]) hx hb dL_pay_12 rfl hl (by decide) rfl (fun ls hl => ?_)
  refine lv_iconst (v := 1) hx hb dL_pay_13 (by decide) ?_
  exact W.iret (v := 1) hx hb hr (fun t ht hW => ⟨⟨1, 1, rfl, rfl, rfl⟩, hS.F ht⟩) hS.2.2 dL_pay_14
def wo_k_earns : List Cond := [.methodLink RL 22 yX11_earns, .instanceMethod yX11_earns, .selects RX11 yX11_earns yX11_earns, .initialized RX11, .classLink RL 13 "java/util/NoSuchElementException"]
def wm_k_earns : List Cond := .codeWith yL_earns cL_earns 5 (some .int) [(0, 10, 13, 13)] :: (wo_k_earns ++ (wm_t_earns ++ ([] : List Cond)))
theorem gd_k_earns : ∀ w ∈ wm_k_earns, goodWord w = true := gd_c rfl (gd_a (by decide) (gd_a gd_t_earns gd_nil))
set_option maxRecDepth 20000 in
theorem im_k_earns : ∀ w ∈ wm_k_earns, w ∈ lw_tbl := im_c (in_r [.codeWith yL_earns cL_earns 5 (some .int) [(0, 10, 13, 13)]] [1185] (by decide +kernel)) (in_app (in_r wo_k_earns [1186, 1187, 1188, 70, 1085] (by decide +kernel)) (in_app im_t_earns im_nil))
set_option maxHeartbeats 4000000 in
set_option maxRecDepth 100000 in
theorem k_earns (l : Launch) (hst : l.stackTraces = false) (dC : Nat → ClassId) (dI : Nat → Nat → Nat) (ad av : Nat → Nat) (sz : Nat) (h0 : Nat) (a : Nat → Nat) (k : Nat → ClassId) (o0 : Nat) (p0 : Int32) (p1 : Int32) : Met l yL_earns wm_k_earns ({ frames := 10, cells := 1, slots := 6, locals := 300 }) (pr_ ad av (dC, dI) sz [.ref h0, .int p0, .int p1, .ref o0] [(h0, .inr (11, [.ref (a 1), .ref (a 2), .ref (a 3), .ref (a 4), .ref (a 5), .ref (a 6), .ref (a 7), .int 0, .ref (a 8), .int 0])), ((a 1), .inr (1, [.ref (a 9), .int 0, .ref (a 10), .int 0, .ref (a 11), .int 0, .ref (a 12), .int 0]))] []) (va_Qi (fun (r u : Int32) => u = r) (fun (r : Int32) (t : State) => (r = 1)) (va_A [(h0, .inr (11, [.ref (a 1), .ref (a 2), .ref (a 3), .ref (a 4), .ref (a 5), .ref (a 6), .ref (a 7), .int 0, .ref (a 8), .int 0])), ((a 1), .inr (1, [.ref (a 9), .int 0, .ref (a 10), .int 0, .ref (a 11), .int 0, .ref (a 12), .int 0]))] sz)) 1 6 (va_A [(h0, .inr (11, [.ref (a 1), .ref (a 2), .ref (a 3), .ref (a 4), .ref (a 5), .ref (a 6), .ref (a 7), .int 0, .ref (a 8), .int 0])), ((a 1), .inr (1, [.ref (a 9), .int 0, .ref (a 10), .int 0, .ref (a 11), .int 0, .ref (a 12), .int 0]))] sz) := by
  refine va_MetW (cc := cL_earns) (maxL := 5) (ret := (some .int)) (by decide) rfl ?_
  intro p e s m args below meth c s₁ B hml hv
  obtain ⟨rfl, hsz, hP, hK, hD0, hM⟩ := hv
  have hx := B.exec
  have hb := B.bytes
  have hr := B.returns
  have hts := atoms_spec (ws := wm_k_earns) B.pre
  have hown : s.vm.findClass RL = some m.cls := findClass_of_methodNamed B.named
  have hlocks := B.notSynchronized
  subst hsz
  have hD := hD0.self (sz := s.heap.size)
  generalize hAe : va_A [(h0, .inr (11, [.ref (a 1), .ref (a 2), .ref (a 3), .ref (a 4), .ref (a 5), .ref (a 6), .ref (a 7), .int 0, .ref (a 8), .int 0])), ((a 1), .inr (1, [.ref (a 9), .int 0, .ref (a 10), .int 0, .ref (a 11), .int 0, .ref (a 12), .int 0]))] s.heap.size = A at hD hM ⊢
  have hA : ∀ q : Nat, s.heap.size ≤ q → A q := fun q h => by rw [← hAe]; exact Or.inr h
  have hS : va_S A s.heap s.heap [] := va_S.rf
  have hP : va_P (dC, dI) vwCl [(h0, .inr (11, [.ref (a 1), .ref (a 2), .ref (a 3), .ref (a 4), .ref (a 5), .ref (a 6), .ref (a 7), .int 0, .ref (a 8), .int 0])), ((a 1), .inr (1, [.ref (a 9), .int 0, .ref (a 10), .int 0, .ref (a 11), .int 0, .ref (a 12), .int 0]))] s.heap := hP
  have hl := lv_entry ([.ref h0, .int p0, .int p1, .ref o0]) (n := 5) (Nat.le_of_ble_eq_true rfl)
  rw [lg_entry_eq]
  generalize (lg_sl ([.ref h0, .int p0, .int p1, .ref o0]) ++ List.replicate (5 - (lg_sl ([.ref h0, .int p0, .int p1, .ref o0])).length) Slot.unset).toArray = ls at hl ⊢
  have hl : lv_has ls 5 [(0, .ref h0), (1, .int p0), (2, .int p1), (3, .ref o0)] := hl
  refine lv_aload_n hx hb dL_earns_0 rfl (lv_at hl 3 rfl) ?_
  refine lv_iconst (v := 0) hx hb dL_earns_1 (by decide) ?_
  refine lv_aload_n hx hb dL_earns_2 rfl (lv_at hl 0 rfl) ?_
  refine lv_iload_n hx hb dL_earns_3 rfl (lv_at hl 1 rfl) ?_
  refine lv_iload_n hx hb dL_earns_4 rfl (lv_at hl 2 rfl) ?_
  have hPc := hP.sub (ws' := [(h0, .inr (11, [.ref (a 1), .ref (a 2), .ref (a 3), .ref (a 4), .ref (a 5), .ref (a 6), .ref (a 7), .int 0, .ref (a 8), .int 0])), ((a 1), .inr (1, [.ref (a 9), .int 0, .ref (a 10), .int 0, .ref (a 11), .int 0, .ref (a 12), .int 0]))]) [0, 1] rfl
  have hDc := hD.sub (ws' := [(h0, .inr (11, [.ref (a 1), .ref (a 2), .ref (a 3), .ref (a 4), .ref (a 5), .ref (a 6), .ref (a 7), .int 0, .ref (a 8), .int 0])), ((a 1), .inr (1, [.ref (a 9), .int 0, .ref (a 10), .int 0, .ref (a 11), .int 0, .ref (a 12), .int 0]))]) [0, 1] (by decide) rfl
  have hKc := hK.sub (tys' := []) [] rfl
  have hFc := va_free (wc := [(h0, .inr (11, [.ref (a 1), .ref (a 2), .ref (a 3), .ref (a 4), .ref (a 5), .ref (a 6), .ref (a 7), .int 0, .ref (a 8), .int 0])), ((a 1), .inr (1, [.ref (a 9), .int 0, .ref (a 10), .int 0, .ref (a 11), .int 0, .ref (a 12), .int 0]))]) hD hS hA [0, 1] rfl
  have htb := vx_table (x := yL_earns) B (hts _ List.mem_cons_self)
  refine vx_calli (vx_runV (As := [.int p0, .int p1]) (rest := [.int 0, .ref o0]) ⟨hx, hb, hml, hown, hts⟩ (t_earns l hst dC dI ad av s.heap.size h0 a (fun _ => dC 0) p0 p1) (cwV 2 hts (gi_4 (List.mem_cons_of_mem _ (List.mem_append_left _ (List.mem_of_getElem? (i := 0) rfl))) (List.mem_cons_of_mem _ (List.mem_append_left _ (List.mem_of_getElem? (i := 1) rfl))) (List.mem_cons_of_mem _ (List.mem_append_left _ (List.mem_of_getElem? (i := 2) rfl))) (List.mem_cons_of_mem _ (List.mem_append_left _ (List.mem_of_getElem? (i := 3) rfl))) (fun _ hh => (List.mem_cons_of_mem _ (List.mem_append_right _ (List.mem_append_left _ hh)))) gd_t_earns) rfl rfl rfl (by decide +kernel) ⟨Nat.le_of_ble_eq_true rfl, Nat.le_of_ble_eq_true rfl⟩) ⟨pr_blind, va_recv hKc hPc (ci := 11) (q0 := 0) rfl rfl, pr_use hPc hKc hDc hFc hS hM⟩ rfl rfl hl.1 rfl (lv_room (Nat.le_of_ble_eq_true rfl)) dL_earns_5 ⟨Nat.le_of_ble_eq_true rfl, Nat.le_of_ble_eq_true rfl⟩) hS (fun q _ h => hFc q h) hFc (fun q _ h => hFc q h) (fun E ce q9 u t H locs ht hvm hpx hBX hz1 hk1 hS hce hcv hcl => ?_) (fun r u t H locs ht hvm hw hB hz1 hk1 hS => hw.elim)
  subst hBX
  refine vx_widen (k := 1) (n := 6) (Nat.le_of_ble_eq_true rfl) (Nat.le_of_ble_eq_true rfl) ?_
  refine ux_catch (name := NSE) hown _ [] htb (by decide) (by decide) (hts (.classLink RL 13 "java/util/NoSuchElementException") (List.mem_cons_of_mem _ (List.mem_append_left _ (List.mem_of_getElem? (i := 4) rfl)))) (va_Nw.use rfl hM.2.2.2.2.2.2.1.2.2.2) hce hcv hcl ?_
  refine W.eq (g2 := F0 m 13 ls [.ref q9]) rfl ?_
  refine lv_astore (lv' := [(4, .ref q9), (0, .ref h0), (1, .int p0), (2, .int p1), (3, .ref o0)]) hx hb dL_earns_13 hl (by decide) rfl (fun ls hl => ?_)
  refine lv_iconst (v := 1) hx hb dL_earns_15 (by decide) ?_
  exact W.iret (v := 1) hx hb hr (fun t ht hW => ⟨⟨1, 1, rfl, rfl, rfl⟩, hS.F ht⟩) hS.2.2 dL_earns_16
def wo_k_ill : List Cond := [.methodLink RL 25 yX11_ill, .instanceMethod yX11_ill, .selects RX11 yX11_ill yX11_ill, .initialized RX11, .classLink RL 13 "java/util/NoSuchElementException"]
def wm_k_ill : List Cond := .codeWith yL_ill cL_ill 5 (some .int) [(0, 10, 13, 13)] :: (wo_k_ill ++ (wm_t_ill ++ ([] : List Cond)))
theorem gd_k_ill : ∀ w ∈ wm_k_ill, goodWord w = true := gd_c rfl (gd_a (by decide) (gd_a gd_t_ill gd_nil))
set_option maxRecDepth 20000 in
theorem im_k_ill : ∀ w ∈ wm_k_ill, w ∈ lw_tbl := im_c (in_r [.codeWith yL_ill cL_ill 5 (some .int) [(0, 10, 13, 13)]] [1198] (by decide +kernel)) (in_app (in_r wo_k_ill [1199, 1200, 1201, 70, 1085] (by decide +kernel)) (in_app im_t_ill im_nil))
set_option maxHeartbeats 4000000 in
set_option maxRecDepth 100000 in
theorem k_ill (l : Launch) (hst : l.stackTraces = false) (dC : Nat → ClassId) (dI : Nat → Nat → Nat) (ad av : Nat → Nat) (sz : Nat) (h0 : Nat) (a : Nat → Nat) (k : Nat → ClassId) (o0 : Nat) (p0 : Int32) (p1 : Int32) : Met l yL_ill wm_k_ill ({ frames := 10, cells := 1, slots := 6, locals := 300 }) (pr_ ad av (dC, dI) sz [.ref h0, .int p0, .int p1, .ref o0] [(h0, .inr (11, [.ref (a 1), .ref (a 2), .ref (a 3), .ref (a 4), .ref (a 5), .ref (a 6), .ref (a 7), .int 0, .ref (a 8), .int 0])), ((a 1), .inr (1, [.ref (a 9), .int 0, .ref (a 10), .int 0, .ref (a 11), .int 0, .ref (a 12), .int 0]))] []) (va_Qi (fun (r u : Int32) => u = r) (fun (r : Int32) (t : State) => (r = 1)) (va_A [(h0, .inr (11, [.ref (a 1), .ref (a 2), .ref (a 3), .ref (a 4), .ref (a 5), .ref (a 6), .ref (a 7), .int 0, .ref (a 8), .int 0])), ((a 1), .inr (1, [.ref (a 9), .int 0, .ref (a 10), .int 0, .ref (a 11), .int 0, .ref (a 12), .int 0]))] sz)) 1 6 (va_A [(h0, .inr (11, [.ref (a 1), .ref (a 2), .ref (a 3), .ref (a 4), .ref (a 5), .ref (a 6), .ref (a 7), .int 0, .ref (a 8), .int 0])), ((a 1), .inr (1, [.ref (a 9), .int 0, .ref (a 10), .int 0, .ref (a 11), .int 0, .ref (a 12), .int 0]))] sz) := by
  refine va_MetW (cc := cL_ill) (maxL := 5) (ret := (some .int)) (by decide) rfl ?_
  intro p e s m args below meth c s₁ B hml hv
  obtain ⟨rfl, hsz, hP, hK, hD0, hM⟩ := hv
  have hx := B.exec
  have hb := B.bytes
  have hr := B.returns
  have hts := atoms_spec (ws := wm_k_ill) B.pre
  have hown : s.vm.findClass RL = some m.cls := findClass_of_methodNamed B.named
  have hlocks := B.notSynchronized
  subst hsz
  have hD := hD0.self (sz := s.heap.size)
  generalize hAe : va_A [(h0, .inr (11, [.ref (a 1), .ref (a 2), .ref (a 3), .ref (a 4), .ref (a 5), .ref (a 6), .ref (a 7), .int 0, .ref (a 8), .int 0])), ((a 1), .inr (1, [.ref (a 9), .int 0, .ref (a 10), .int 0, .ref (a 11), .int 0, .ref (a 12), .int 0]))] s.heap.size = A at hD hM ⊢
  have hA : ∀ q : Nat, s.heap.size ≤ q → A q := fun q h => by rw [← hAe]; exact Or.inr h
  have hS : va_S A s.heap s.heap [] := va_S.rf
  have hP : va_P (dC, dI) vwCl [(h0, .inr (11, [.ref (a 1), .ref (a 2), .ref (a 3), .ref (a 4), .ref (a 5), .ref (a 6), .ref (a 7), .int 0, .ref (a 8), .int 0])), ((a 1), .inr (1, [.ref (a 9), .int 0, .ref (a 10), .int 0, .ref (a 11), .int 0, .ref (a 12), .int 0]))] s.heap := hP
  have hl := lv_entry ([.ref h0, .int p0, .int p1, .ref o0]) (n := 5) (Nat.le_of_ble_eq_true rfl)
  rw [lg_entry_eq]
  generalize (lg_sl ([.ref h0, .int p0, .int p1, .ref o0]) ++ List.replicate (5 - (lg_sl ([.ref h0, .int p0, .int p1, .ref o0])).length) Slot.unset).toArray = ls at hl ⊢
  have hl : lv_has ls 5 [(0, .ref h0), (1, .int p0), (2, .int p1), (3, .ref o0)] := hl
  refine lv_aload_n hx hb dL_ill_0 rfl (lv_at hl 3 rfl) ?_
  refine lv_iconst (v := 0) hx hb dL_ill_1 (by decide) ?_
  refine lv_aload_n hx hb dL_ill_2 rfl (lv_at hl 0 rfl) ?_
  refine lv_iload_n hx hb dL_ill_3 rfl (lv_at hl 1 rfl) ?_
  refine lv_iload_n hx hb dL_ill_4 rfl (lv_at hl 2 rfl) ?_
  have hPc := hP.sub (ws' := [(h0, .inr (11, [.ref (a 1), .ref (a 2), .ref (a 3), .ref (a 4), .ref (a 5), .ref (a 6), .ref (a 7), .int 0, .ref (a 8), .int 0])), ((a 1), .inr (1, [.ref (a 9), .int 0, .ref (a 10), .int 0, .ref (a 11), .int 0, .ref (a 12), .int 0]))]) [0, 1] rfl
  have hDc := hD.sub (ws' := [(h0, .inr (11, [.ref (a 1), .ref (a 2), .ref (a 3), .ref (a 4), .ref (a 5), .ref (a 6), .ref (a 7), .int 0, .ref (a 8), .int 0])), ((a 1), .inr (1, [.ref (a 9), .int 0, .ref (a 10), .int 0, .ref (a 11), .int 0, .ref (a 12), .int 0]))]) [0, 1] (by decide) rfl
  have hKc := hK.sub (tys' := []) [] rfl
  have hFc := va_free (wc := [(h0, .inr (11, [.ref (a 1), .ref (a 2), .ref (a 3), .ref (a 4), .ref (a 5), .ref (a 6), .ref (a 7), .int 0, .ref (a 8), .int 0])), ((a 1), .inr (1, [.ref (a 9), .int 0, .ref (a 10), .int 0, .ref (a 11), .int 0, .ref (a 12), .int 0]))]) hD hS hA [0, 1] rfl
  have htb := vx_table (x := yL_ill) B (hts _ List.mem_cons_self)
  refine vx_calli (vx_runV (As := [.int p0, .int p1]) (rest := [.int 0, .ref o0]) ⟨hx, hb, hml, hown, hts⟩ (t_ill l hst dC dI ad av s.heap.size h0 a (fun _ => dC 0) p0 p1) (cwV 2 hts (gi_4 (List.mem_cons_of_mem _ (List.mem_append_left _ (List.mem_of_getElem? (i := 0) rfl))) (List.mem_cons_of_mem _ (List.mem_append_left _ (List.mem_of_getElem? (i := 1) rfl))) (List.mem_cons_of_mem _ (List.mem_append_left _ (List.mem_of_getElem? (i := 2) rfl))) (List.mem_cons_of_mem _ (List.mem_append_left _ (List.mem_of_getElem? (i := 3) rfl))) (fun _ hh => (List.mem_cons_of_mem _ (List.mem_append_right _ (List.mem_append_left _ hh)))) gd_t_ill) rfl rfl rfl (by decide +kernel) ⟨Nat.le_of_ble_eq_true rfl, Nat.le_of_ble_eq_true rfl⟩) ⟨pr_blind, va_recv hKc hPc (ci := 11) (q0 := 0) rfl rfl, pr_use hPc hKc hDc hFc hS hM⟩ rfl rfl hl.1 rfl (lv_room (Nat.le_of_ble_eq_true rfl)) dL_ill_5 ⟨Nat.le_of_ble_eq_true rfl, Nat.le_of_ble_eq_true rfl⟩) hS (fun q _ h => hFc q h) hFc (fun q _ h => hFc q h) (fun E ce q9 u t H locs ht hvm hpx hBX hz1 hk1 hS hce hcv hcl => ?_) (fun r u t H locs ht hvm hw hB hz1 hk1 hS => hw.elim)
  subst hBX
  refine vx_widen (k := 1) (n := 6) (Nat.le_of_ble_eq_true rfl) (Nat.le_of_ble_eq_true rfl) ?_
  refine ux_catch (name := NSE) hown _ [] htb (by decide) (by decide) (hts (.classLink RL 13 "java/util/NoSuchElementException") (List.mem_cons_of_mem _ (List.mem_append_left _ (List.mem_of_getElem? (i := 4) rfl)))) (va_Nw.use rfl hM.2.2.2.2.2.2.1.2.2.2) hce hcv hcl ?_
  refine W.eq (g2 := F0 m 13 ls [.ref q9]) rfl ?_
  refine lv_astore (lv' := [(4, .ref q9), (0, .ref h0), (1, .int p0), (2, .int p1), (3, .ref o0)]) hx hb dL_ill_13 hl (by decide) rfl (fun ls hl => ?_)
  refine lv_iconst (v := 1) hx hb dL_ill_15 (by decide) ?_
  exact W.iret (v := 1) hx hb hr (fun t ht hW => ⟨⟨1, 1, rfl, rfl, rfl⟩, hS.F ht⟩) hS.2.2 dL_ill_16
def wo_k_row : List Cond := [.methodLink RL 28 yX11_row, .instanceMethod yX11_row, .selects RX11 yX11_row yX11_row, .initialized RX11, .classLink RL 13 "java/util/NoSuchElementException"]
def wm_k_row : List Cond := .codeWith yL_row cL_row 4 (some .int) [(0, 9, 12, 13)] :: (wo_k_row ++ (wm_t_row ++ ([] : List Cond)))
theorem gd_k_row : ∀ w ∈ wm_k_row, goodWord w = true := gd_c rfl (gd_a (by decide) (gd_a gd_t_row gd_nil))
set_option maxRecDepth 20000 in
theorem im_k_row : ∀ w ∈ wm_k_row, w ∈ lw_tbl := im_c (in_r [.codeWith yL_row cL_row 4 (some .int) [(0, 9, 12, 13)]] [1206] (by decide +kernel)) (in_app (in_r wo_k_row [1207, 1208, 1209, 70, 1085] (by decide +kernel)) (in_app im_t_row im_nil))
set_option maxHeartbeats 4000000 in
set_option maxRecDepth 100000 in
theorem k_row (l : Launch) (hst : l.stackTraces = false) (dC : Nat → ClassId) (dI : Nat → Nat → Nat) (ad av : Nat → Nat) (sz : Nat) (h0 : Nat) (a : Nat → Nat) (k : Nat → ClassId) (o0 : Nat) (p0 : Int32) : Met l yL_row wm_k_row ({ frames := 10, cells := 1, slots := 6, locals := 300 }) (pr_ ad av (dC, dI) sz [.ref h0, .int p0, .ref o0] [(h0, .inr (11, [.ref (a 1), .ref (a 2), .ref (a 3), .ref (a 4), .ref (a 5), .ref (a 6), .ref (a 7), .int 0, .ref (a 8), .int 0]))] []) (va_Qi (fun (r u : Int32) => u = r) (fun (r : Int32) (t : State) => (r = 1)) (va_A [(h0, .inr (11, [.ref (a 1), .ref (a 2), .ref (a 3), .ref (a 4), .ref (a 5), .ref (a 6), .ref (a 7), .int 0, .ref (a 8), .int 0]))] sz)) 1 6 (va_A [(h0, .inr (11, [.ref (a 1), .ref (a 2), .ref (a 3), .ref (a 4), .ref (a 5), .ref (a 6), .ref (a 7), .int 0, .ref (a 8), .int 0]))] sz) := by
  refine va_MetW (cc := cL_row) (maxL := 4) (ret := (some .int)) (by decide) rfl ?_
  intro p e s m args below meth c s₁ B hml hv
  obtain ⟨rfl, hsz, hP, hK, hD0, hM⟩ := hv
  have hx := B.exec
  have hb := B.bytes
  have hr := B.returns
  have hts := atoms_spec (ws := wm_k_row) B.pre
  have hown : s.vm.findClass RL = some m.cls := findClass_of_methodNamed B.named
  have hlocks := B.notSynchronized
  subst hsz
  have hD := hD0.self (sz := s.heap.size)
  generalize hAe : va_A [(h0, .inr (11, [.ref (a 1), .ref (a 2), .ref (a 3), .ref (a 4), .ref (a 5), .ref (a 6), .ref (a 7), .int 0, .ref (a 8), .int 0]))] s.heap.size = A at hD hM ⊢
  have hA : ∀ q : Nat, s.heap.size ≤ q → A q := fun q h => by rw [← hAe]; exact Or.inr h
  have hS : va_S A s.heap s.heap [] := va_S.rf
  have hP : va_P (dC, dI) vwCl [(h0, .inr (11, [.ref (a 1), .ref (a 2), .ref (a 3), .ref (a 4), .ref (a 5), .ref (a 6), .ref (a 7), .int 0, .ref (a 8), .int 0]))] s.heap := hP
  have hl := lv_entry ([.ref h0, .int p0, .ref o0]) (n := 4) (Nat.le_of_ble_eq_true rfl)
  rw [lg_entry_eq]
  generalize (lg_sl ([.ref h0, .int p0, .ref o0]) ++ List.replicate (4 - (lg_sl ([.ref h0, .int p0, .ref o0])).length) Slot.unset).toArray = ls at hl ⊢
  have hl : lv_has ls 4 [(0, .ref h0), (1, .int p0), (2, .ref o0)] := hl
  refine lv_aload_n hx hb dL_row_0 rfl (lv_at hl 2 rfl) ?_
  refine lv_iconst (v := 0) hx hb dL_row_1 (by decide) ?_
  refine lv_aload_n hx hb dL_row_2 rfl (lv_at hl 0 rfl) ?_
  refine lv_iload_n hx hb dL_row_3 rfl (lv_at hl 1 rfl) ?_
  have hPc := hP.sub (ws' := [(h0, .inr (11, [.ref (a 1), .ref (a 2), .ref (a 3), .ref (a 4), .ref (a 5), .ref (a 6), .ref (a 7), .int 0, .ref (a 8), .int 0]))]) [0] rfl
  have hDc := hD.sub (ws' := [(h0, .inr (11, [.ref (a 1), .ref (a 2), .ref (a 3), .ref (a 4), .ref (a 5), .ref (a 6), .ref (a 7), .int 0, .ref (a 8), .int 0]))]) [0] (by decide) rfl
  have hKc := hK.sub (tys' := []) [] rfl
  have hFc := va_free (wc := [(h0, .inr (11, [.ref (a 1), .ref (a 2), .ref (a 3), .ref (a 4), .ref (a 5), .ref (a 6), .ref (a 7), .int 0, .ref (a 8), .int 0]))]) hD hS hA [0] rfl
  have htb := vx_table (x := yL_row) B (hts _ List.mem_cons_self)
  refine vx_calli (vx_runV (As := [.int p0]) (rest := [.int 0, .ref o0]) ⟨hx, hb, hml, hown, hts⟩ (t_row l hst dC dI ad av s.heap.size h0 a (fun _ => dC 0) p0) (cwV 1 hts (gi_4 (List.mem_cons_of_mem _ (List.mem_append_left _ (List.mem_of_getElem? (i := 0) rfl))) (List.mem_cons_of_mem _ (List.mem_append_left _ (List.mem_of_getElem? (i := 1) rfl))) (List.mem_cons_of_mem _ (List.mem_append_left _ (List.mem_of_getElem? (i := 2) rfl))) (List.mem_cons_of_mem _ (List.mem_append_left _ (List.mem_of_getElem? (i := 3) rfl))) (fun _ hh => (List.mem_cons_of_mem _ (List.mem_append_right _ (List.mem_append_left _ hh)))) gd_t_row) rfl rfl rfl (by decide +kernel) ⟨Nat.le_of_ble_eq_true rfl, Nat.le_of_ble_eq_true rfl⟩) ⟨pr_blind, va_recv hKc hPc (ci := 11) (q0 := 0) rfl rfl, pr_use hPc hKc hDc hFc hS hM⟩ rfl rfl hl.1 rfl (lv_room (Nat.le_of_ble_eq_true rfl)) dL_row_4 ⟨Nat.le_of_ble_eq_true rfl, Nat.le_of_ble_eq_true rfl⟩) hS (fun q _ h => hFc q h) hFc (fun q _ h => hFc q h) (fun E ce q9 u t H locs ht hvm hpx hBX hz1 hk1 hS hce hcv hcl => ?_) (fun r u t H locs ht hvm hw hB hz1 hk1 hS => hw.elim)
  subst hBX
  refine vx_widen (k := 1) (n := 6) (Nat.le_of_ble_eq_true rfl) (Nat.le_of_ble_eq_true rfl) ?_
  refine ux_catch (name := NSE) hown _ [] htb (by decide) (by decide) (hts (.classLink RL 13 "java/util/NoSuchElementException") (List.mem_cons_of_mem _ (List.mem_append_left _ (List.mem_of_getElem? (i := 4) rfl)))) (va_Nw.use rfl hM.2.2.2.2.2.2.1.2.2.2) hce hcv hcl ?_
  refine W.eq (g2 := F0 m 12 ls [.ref q9]) rfl ?_
  refine lv_astore_n (lv' := [(3, .ref q9), (0, .ref h0), (1, .int p0), (2, .ref o0)]) hx hb dL_row_12 rfl hl (by decide) rfl (fun ls hl => ?_)
  refine lv_iconst (v := 1) hx hb dL_row_13 (by decide) ?_
  exact W.iret (v := 1) hx hb hr (fun t ht hW => ⟨⟨1, 1, rfl, rfl, rfl⟩, hS.F ht⟩) hS.2.2 dL_row_14
