def wo_c_post : List Cond := [.methodLink RX11 68 yX11_within, .static yX11_within, .initialized RX11, .fieldLink RX11 10 "TypingPool" "book" "LTypingPool$Book;", .fieldLink RX11 72 "TypingPool$Book" "postCount" "I", .fieldLink RX11 75 "TypingPool$Book" "posts" "[I"]
def wm_c_post : List Cond := .code yX11_post cX11_post 2 (some .int) :: (wo_c_post ++ (wm_c_within ++ (wsX110 ++ (wsX10 ++ ([] : List Cond)))))
theorem gd_c_post : ∀ w ∈ wm_c_post, goodWord w = true := gd_c rfl (gd_a (by decide) (gd_a gd_c_within (gd_a gd_wsX110 (gd_a gd_wsX10 gd_nil))))
set_option maxRecDepth 20000 in
theorem im_c_post : ∀ w ∈ wm_c_post, w ∈ lw_tbl := im_c (in_r [.code yX11_post cX11_post 2 (some .int)] [593] (by decide +kernel)) (in_app (in_r wo_c_post [594, 595, 70, 559, 119, 117] (by decide +kernel)) (in_app im_c_within (in_app im_wsX110 (in_app im_wsX10 im_nil))))
set_option maxHeartbeats 4000000 in
set_option maxRecDepth 100000 in
theorem c_post (l : Launch) (dC : Nat → ClassId) (dI : Nat → Nat → Nat) (ad av : Nat → Nat) (sz : Nat) (h0 : Nat) (a : Nat → Nat) (k : Nat → ClassId) (f9 : Nat → Int32) (p0 : Int32) : Met l yX11_post wm_c_post ({ frames := 4, cells := 0, slots := 0, locals := 200 }) (pr_ ad av (dC, dI) sz [.ref h0, .int p0] [(h0, .inr (11, [.ref (a 1), .ref (a 2), .ref (a 3), .ref (a 4), .ref (a 5), .ref (a 6), .ref (a 7), .int 0, .ref (a 8), .int 0])), ((a 1), .inr (1, [.ref (a 9), .int 0, .ref (a 10), .int 0, .ref (a 11), .int 0, .ref (a 12), .int 0])), ((a 9), .inl ((k 9), 4, .inl f9))] [((k 9), .int)]) (va_Qi (fun (r u : Int32) => u = r) (fun (r : Int32) (t : State) => (r = sp_post p0)) (va_A [(h0, .inr (11, [.ref (a 1), .ref (a 2), .ref (a 3), .ref (a 4), .ref (a 5), .ref (a 6), .ref (a 7), .int 0, .ref (a 8), .int 0])), ((a 1), .inr (1, [.ref (a 9), .int 0, .ref (a 10), .int 0, .ref (a 11), .int 0, .ref (a 12), .int 0])), ((a 9), .inl ((k 9), 4, .inl f9))] sz)) 0 0 (va_A [(h0, .inr (11, [.ref (a 1), .ref (a 2), .ref (a 3), .ref (a 4), .ref (a 5), .ref (a 6), .ref (a 7), .int 0, .ref (a 8), .int 0])), ((a 1), .inr (1, [.ref (a 9), .int 0, .ref (a 10), .int 0, .ref (a 11), .int 0, .ref (a 12), .int 0])), ((a 9), .inl ((k 9), 4, .inl f9))] sz) := by
  refine Met.ofW (cc := cX11_post) (maxL := 2) (ret := (some .int)) (by decide) rfl ?_
  intro p e s m args below meth c s₁ B hml hv
  obtain ⟨rfl, hsz, hP, hK, hD0, hM⟩ := hv
  have hx := B.exec
  have hb := B.bytes
  have hr := B.returns
  have hts := atoms_spec (ws := wm_c_post) B.pre
  have hown : s.vm.findClass RX11 = some m.cls := findClass_of_methodNamed B.named
  have hlocks := B.notSynchronized
  subst hsz
  have hD := hD0.self (sz := s.heap.size)
  generalize hAe : va_A [(h0, .inr (11, [.ref (a 1), .ref (a 2), .ref (a 3), .ref (a 4), .ref (a 5), .ref (a 6), .ref (a 7), .int 0, .ref (a 8), .int 0])), ((a 1), .inr (1, [.ref (a 9), .int 0, .ref (a 10), .int 0, .ref (a 11), .int 0, .ref (a 12), .int 0])), ((a 9), .inl ((k 9), 4, .inl f9))] s.heap.size = A at hD hM ⊢
  have hA : ∀ q : Nat, s.heap.size ≤ q → A q := fun q h => by rw [← hAe]; exact Or.inr h
  have hS : va_S A s.heap s.heap [] := va_S.rf
  have hP : va_P (dC, dI) vwCl [(h0, .inr (11, [.ref (a 1), .ref (a 2), .ref (a 3), .ref (a 4), .ref (a 5), .ref (a 6), .ref (a 7), .int 0, .ref (a 8), .int 0])), ((a 1), .inr (1, [.ref (a 9), .int 0, .ref (a 10), .int 0, .ref (a 11), .int 0, .ref (a 12), .int 0])), ((a 9), .inl ((k 9), 4, .inl f9))] s.heap := hP
  have hl := lv_entry ([.ref h0, .int p0]) (n := 2) (Nat.le_of_ble_eq_true rfl)
  rw [lg_entry_eq]
  generalize (lg_sl ([.ref h0, .int p0]) ++ List.replicate (2 - (lg_sl ([.ref h0, .int p0])).length) Slot.unset).toArray = ls at hl ⊢
  have hl : lv_has ls 2 [(0, .ref h0), (1, .int p0)] := hl
  refine lv_iload_n hx hb dX11_post_0 rfl (lv_at hl 1 rfl) ?_
  refine lv_iconst (v := 0) hx hb dX11_post_1 (by decide) ?_
  refine lv_sipush (v := 479) hx hb dX11_post_2 (by decide) ?_
  have hPc := hP.sub (ws' := []) [] rfl
  have hDc := hD.sub (ws' := []) [] (by decide) rfl
  have hKc := hK.sub (tys' := []) [] rfl
  have hFc := va_free (wc := []) hD hS hA [] rfl
  refine va_calli (va_runS (As := [.int p0, .int 0, .int 479]) (rest := []) ⟨hx, hb, hml, hown, hts⟩ (c_within l dC dI ad av s.heap.size p0 0 479 ) (va_cwS 3 hts (gi_3 (List.mem_cons_of_mem _ (List.mem_append_left _ (List.mem_of_getElem? (i := 0) rfl))) (List.mem_cons_of_mem _ (List.mem_append_left _ (List.mem_of_getElem? (i := 1) rfl))) (List.mem_cons_of_mem _ (List.mem_append_left _ (List.mem_of_getElem? (i := 2) rfl))) (fun _ hh => (List.mem_cons_of_mem _ (List.mem_append_right _ (List.mem_append_left _ hh)))) gd_c_within) rfl rfl rfl (by decide +kernel) ⟨Nat.le_of_ble_eq_true rfl, Nat.le_of_ble_eq_true rfl⟩) ⟨pr_blind, pr_use hPc hKc hDc hFc hS hM⟩ rfl rfl hl.1 rfl (lv_room (Nat.le_of_ble_eq_true rfl)) dX11_post_5 ⟨Nat.le_of_ble_eq_true rfl, Nat.le_of_ble_eq_true rfl⟩) hS (fun q _ h => hFc q h) hFc (fun r_9 u t H locs ht hvm hw hB hz1 hk1 hS => ?_)
  refine W.widen (k := 0) (n := 0) (Nat.le_of_ble_eq_true rfl) (Nat.le_of_ble_eq_true rfl) ?_
  subst hw
  rcases hB with ⟨hre_10, hf_11, hf_12, hP1, hK1, hD1⟩ | ⟨hre_13, hf_14, hP1, hK1, hD1⟩
  · refine lq_top (v := 1) hre_10 ?_
    rw [ht] at hP1
    have hK1 := va_K.moved hvm.symm hK1
    obtain ⟨hP, hD⟩ := va_join (wr := [(h0, .inr (11, [.ref (a 1), .ref (a 2), .ref (a 3), .ref (a 4), .ref (a 5), .ref (a 6), .ref (a 7), .int 0, .ref (a 8), .int 0])), ((a 1), .inr (1, [.ref (a 9), .int 0, .ref (a 10), .int 0, .ref (a 11), .int 0, .ref (a 12), .int 0])), ((a 9), .inl ((k 9), 4, .inl f9))]) (w1 := []) hP hD [] [0, 1, 2] rfl rfl (by decide) (by decide) hk1 hFc hP1 hD1
    have hK := (hK.sub (tys' := [((k 9), .int)]) [0] rfl).app hK1
    have hP : va_P (dC, dI) vwCl [(h0, .inr (11, [.ref (a 1), .ref (a 2), .ref (a 3), .ref (a 4), .ref (a 5), .ref (a 6), .ref (a 7), .int 0, .ref (a 8), .int 0])), ((a 1), .inr (1, [.ref (a 9), .int 0, .ref (a 10), .int 0, .ref (a 11), .int 0, .ref (a 12), .int 0])), ((a 9), .inl ((k 9), 4, .inl f9))] H := hP
    have hD : va_D A [(h0, .inr (11, [.ref (a 1), .ref (a 2), .ref (a 3), .ref (a 4), .ref (a 5), .ref (a 6), .ref (a 7), .int 0, .ref (a 8), .int 0])), ((a 1), .inr (1, [.ref (a 9), .int 0, .ref (a 10), .int 0, .ref (a 11), .int 0, .ref (a 12), .int 0])), ((a 9), .inl ((k 9), 4, .inl f9))] := hD
    have hK : va_K (dC, dI) vwCl [((k 9), .int)] s := hK
    refine lv_if_eq (tgt := 22) hx hb dX11_post_8 (by decide) (fun c_15 => absurd c_15 (by decide)) (fun c_15 => ?_)
    refine lv_aload_n hx hb dX11_post_11 rfl (lv_at hl 0 rfl) ?_
    refine va_get (D := (dC, dI)) (ci := 11) (v := .ref (a 1)) (C := RX11) (T := TX11) (N := 10) hx hb hts (fun _ hh => (List.mem_cons_of_mem _ (List.mem_append_right _ (List.mem_append_right _ (List.mem_append_left _ hh))))) hown hK hP 0 rfl rfl 0 (by decide) (hts (.fieldLink RX11 10 "TypingPool" "book" "LTypingPool$Book;") (List.mem_cons_of_mem _ (List.mem_append_left _ (List.mem_of_getElem? (i := 3) rfl)))) (fun _ h9 => h9) rfl dX11_post_12 ?_
    refine va_get (D := (dC, dI)) (ci := 1) (v := .int 0) (C := RX1) (T := TX1) (N := 8) hx hb hts (fun _ hh => (List.mem_cons_of_mem _ (List.mem_append_right _ (List.mem_append_right _ (List.mem_append_right _ (List.mem_append_left _ hh)))))) hown hK hP 1 rfl rfl 1 (by decide) (hts (.fieldLink RX11 72 "TypingPool$Book" "postCount" "I") (List.mem_cons_of_mem _ (List.mem_append_left _ (List.mem_of_getElem? (i := 4) rfl)))) (fun _ h9 => h9) rfl dX11_post_15 ?_
    refine lv_iconst (v := 4) hx hb dX11_post_18 (by decide) ?_
    refine lv_icmp_lt (tgt := 24) hx hb dX11_post_19 (by decide) (fun c_16 => ?_) (fun c_16 => absurd c_16 (fun z => z (by decide)))
    refine lv_aload_n hx hb dX11_post_24 rfl (lv_at hl 0 rfl) ?_
    refine va_get (D := (dC, dI)) (ci := 11) (v := .ref (a 1)) (C := RX11) (T := TX11) (N := 10) hx hb hts (fun _ hh => (List.mem_cons_of_mem _ (List.mem_append_right _ (List.mem_append_right _ (List.mem_append_left _ hh))))) hown hK hP 0 rfl rfl 0 (by decide) (hts (.fieldLink RX11 10 "TypingPool" "book" "LTypingPool$Book;") (List.mem_cons_of_mem _ (List.mem_append_left _ (List.mem_of_getElem? (i := 3) rfl)))) (fun _ h9 => h9) rfl dX11_post_25 ?_
    refine va_get (D := (dC, dI)) (ci := 1) (v := .ref (a 9)) (C := RX1) (T := TX1) (N := 8) hx hb hts (fun _ hh => (List.mem_cons_of_mem _ (List.mem_append_right _ (List.mem_append_right _ (List.mem_append_right _ (List.mem_append_left _ hh)))))) hown hK hP 1 rfl rfl 0 (by decide) (hts (.fieldLink RX11 75 "TypingPool$Book" "posts" "[I") (List.mem_cons_of_mem _ (List.mem_append_left _ (List.mem_of_getElem? (i := 5) rfl)))) (fun _ h9 => h9) rfl dX11_post_28 ?_
    refine lv_aload_n hx hb dX11_post_31 rfl (lv_at hl 0 rfl) ?_
    refine va_get (D := (dC, dI)) (ci := 11) (v := .ref (a 1)) (C := RX11) (T := TX11) (N := 10) hx hb hts (fun _ hh => (List.mem_cons_of_mem _ (List.mem_append_right _ (List.mem_append_right _ (List.mem_append_left _ hh))))) hown hK hP 0 rfl rfl 0 (by decide) (hts (.fieldLink RX11 10 "TypingPool" "book" "LTypingPool$Book;") (List.mem_cons_of_mem _ (List.mem_append_left _ (List.mem_of_getElem? (i := 3) rfl)))) (fun _ h9 => h9) rfl dX11_post_32 ?_
    refine va_get (D := (dC, dI)) (ci := 1) (v := .int 0) (C := RX1) (T := TX1) (N := 8) hx hb hts (fun _ hh => (List.mem_cons_of_mem _ (List.mem_append_right _ (List.mem_append_right _ (List.mem_append_right _ (List.mem_append_left _ hh)))))) hown hK hP 1 rfl rfl 1 (by decide) (hts (.fieldLink RX11 72 "TypingPool$Book" "postCount" "I") (List.mem_cons_of_mem _ (List.mem_append_left _ (List.mem_of_getElem? (i := 4) rfl)))) (fun _ h9 => h9) rfl dX11_post_35 ?_
    refine lv_iload_n hx hb dX11_post_38 rfl (lv_at hl 1 rfl) ?_
    refine va_iast hx hb hK hP hD hS 2 0 rfl rfl (by unfold vp_in; decide) dX11_post_39 (fun H locs hP hD hS => ?_)
    obtain ⟨f_17, ef_17⟩ : ∃ y : Nat → Int32, y = upd f9 (0 : Int32).toNatClampNeg p0 := ⟨_, rfl⟩
    have hP : va_P (dC, dI) vwCl [(h0, .inr (11, [.ref (a 1), .ref (a 2), .ref (a 3), .ref (a 4), .ref (a 5), .ref (a 6), .ref (a 7), .int 0, .ref (a 8), .int 0])), ((a 1), .inr (1, [.ref (a 9), .int 0, .ref (a 10), .int 0, .ref (a 11), .int 0, .ref (a 12), .int 0])), ((a 9), .inl ((k 9), 4, .inl f_17))] H := by rw [ef_17]; exact hP
    have hD : va_D A [(h0, .inr (11, [.ref (a 1), .ref (a 2), .ref (a 3), .ref (a 4), .ref (a 5), .ref (a 6), .ref (a 7), .int 0, .ref (a 8), .int 0])), ((a 1), .inr (1, [.ref (a 9), .int 0, .ref (a 10), .int 0, .ref (a 11), .int 0, .ref (a 12), .int 0])), ((a 9), .inl ((k 9), 4, .inl f_17))] := by rw [ef_17]; exact hD
    refine lv_aload_n hx hb dX11_post_40 rfl (lv_at hl 0 rfl) ?_
    refine va_get (D := (dC, dI)) (ci := 11) (v := .ref (a 1)) (C := RX11) (T := TX11) (N := 10) hx hb hts (fun _ hh => (List.mem_cons_of_mem _ (List.mem_append_right _ (List.mem_append_right _ (List.mem_append_left _ hh))))) hown hK hP 0 rfl rfl 0 (by decide) (hts (.fieldLink RX11 10 "TypingPool" "book" "LTypingPool$Book;") (List.mem_cons_of_mem _ (List.mem_append_left _ (List.mem_of_getElem? (i := 3) rfl)))) (fun _ h9 => h9) rfl dX11_post_41 ?_
    refine lv_dup hx hb dX11_post_44 rfl ?_
    refine va_get (D := (dC, dI)) (ci := 1) (v := .int 0) (C := RX1) (T := TX1) (N := 8) hx hb hts (fun _ hh => (List.mem_cons_of_mem _ (List.mem_append_right _ (List.mem_append_right _ (List.mem_append_right _ (List.mem_append_left _ hh)))))) hown hK hP 1 rfl rfl 1 (by decide) (hts (.fieldLink RX11 72 "TypingPool$Book" "postCount" "I") (List.mem_cons_of_mem _ (List.mem_append_left _ (List.mem_of_getElem? (i := 4) rfl)))) (fun _ h9 => h9) rfl dX11_post_45 ?_
    refine lv_iconst (v := 1) hx hb dX11_post_48 (by decide) ?_
    refine lv_iadd hx hb dX11_post_49 ?_
    refine lq_top (v := 1) (by decide) ?_
    refine va_put (D := (dC, dI)) (ci := 1) (v := .int 1) (ty := .int) (C := RX1) (T := TX1) (N := 8) hx hb hts (fun _ hh => (List.mem_cons_of_mem _ (List.mem_append_right _ (List.mem_append_right _ (List.mem_append_right _ (List.mem_append_left _ hh)))))) tyX1 tyX1_ok nmX1 hown hK hP hD hS 1 rfl rfl 1 (by decide) (hts (.fieldLink RX11 72 "TypingPool$Book" "postCount" "I") (List.mem_cons_of_mem _ (List.mem_append_left _ (List.mem_of_getElem? (i := 4) rfl)))) (fun _ h9 => h9) rfl (tyX1_ok 1 (by decide)) rfl rfl (Nat.le_of_ble_eq_true rfl) dX11_post_50 (fun H locs hP hD hS => ?_)
    have hP : va_P (dC, dI) vwCl [(h0, .inr (11, [.ref (a 1), .ref (a 2), .ref (a 3), .ref (a 4), .ref (a 5), .ref (a 6), .ref (a 7), .int 0, .ref (a 8), .int 0])), ((a 1), .inr (1, [.ref (a 9), .int 1, .ref (a 10), .int 0, .ref (a 11), .int 0, .ref (a 12), .int 0])), ((a 9), .inl ((k 9), 4, .inl f_17))] H := hP
    have hD : va_D A [(h0, .inr (11, [.ref (a 1), .ref (a 2), .ref (a 3), .ref (a 4), .ref (a 5), .ref (a 6), .ref (a 7), .int 0, .ref (a 8), .int 0])), ((a 1), .inr (1, [.ref (a 9), .int 1, .ref (a 10), .int 0, .ref (a 11), .int 0, .ref (a 12), .int 0])), ((a 9), .inl ((k 9), 4, .inl f_17))] := hD
    refine lv_aload_n hx hb dX11_post_53 rfl (lv_at hl 0 rfl) ?_
    refine va_get (D := (dC, dI)) (ci := 11) (v := .ref (a 1)) (C := RX11) (T := TX11) (N := 10) hx hb hts (fun _ hh => (List.mem_cons_of_mem _ (List.mem_append_right _ (List.mem_append_right _ (List.mem_append_left _ hh))))) hown hK hP 0 rfl rfl 0 (by decide) (hts (.fieldLink RX11 10 "TypingPool" "book" "LTypingPool$Book;") (List.mem_cons_of_mem _ (List.mem_append_left _ (List.mem_of_getElem? (i := 3) rfl)))) (fun _ h9 => h9) rfl dX11_post_54 ?_
    refine va_get (D := (dC, dI)) (ci := 1) (v := .int 1) (C := RX1) (T := TX1) (N := 8) hx hb hts (fun _ hh => (List.mem_cons_of_mem _ (List.mem_append_right _ (List.mem_append_right _ (List.mem_append_right _ (List.mem_append_left _ hh)))))) hown hK hP 1 rfl rfl 1 (by decide) (hts (.fieldLink RX11 72 "TypingPool$Book" "postCount" "I") (List.mem_cons_of_mem _ (List.mem_append_left _ (List.mem_of_getElem? (i := 4) rfl)))) (fun _ h9 => h9) rfl dX11_post_57 ?_
    exact W.iret (v := 1) hx hb hr (fun t ht hW => ⟨⟨1, 1, rfl, rfl, (if_pos ⟨hf_11, hf_12⟩).symm⟩, hS.F ht⟩) hS.2.2 dX11_post_60
  · refine lq_top (v := 0) hre_13 ?_
    rw [ht] at hP1
    have hK1 := va_K.moved hvm.symm hK1
    obtain ⟨hP, hD⟩ := va_join (wr := [(h0, .inr (11, [.ref (a 1), .ref (a 2), .ref (a 3), .ref (a 4), .ref (a 5), .ref (a 6), .ref (a 7), .int 0, .ref (a 8), .int 0])), ((a 1), .inr (1, [.ref (a 9), .int 0, .ref (a 10), .int 0, .ref (a 11), .int 0, .ref (a 12), .int 0])), ((a 9), .inl ((k 9), 4, .inl f9))]) (w1 := []) hP hD [] [0, 1, 2] rfl rfl (by decide) (by decide) hk1 hFc hP1 hD1
    have hK := (hK.sub (tys' := [((k 9), .int)]) [0] rfl).app hK1
    have hP : va_P (dC, dI) vwCl [(h0, .inr (11, [.ref (a 1), .ref (a 2), .ref (a 3), .ref (a 4), .ref (a 5), .ref (a 6), .ref (a 7), .int 0, .ref (a 8), .int 0])), ((a 1), .inr (1, [.ref (a 9), .int 0, .ref (a 10), .int 0, .ref (a 11), .int 0, .ref (a 12), .int 0])), ((a 9), .inl ((k 9), 4, .inl f9))] H := hP
    have hD : va_D A [(h0, .inr (11, [.ref (a 1), .ref (a 2), .ref (a 3), .ref (a 4), .ref (a 5), .ref (a 6), .ref (a 7), .int 0, .ref (a 8), .int 0])), ((a 1), .inr (1, [.ref (a 9), .int 0, .ref (a 10), .int 0, .ref (a 11), .int 0, .ref (a 12), .int 0])), ((a 9), .inl ((k 9), 4, .inl f9))] := hD
    have hK : va_K (dC, dI) vwCl [((k 9), .int)] s := hK
    refine lv_if_eq (tgt := 22) hx hb dX11_post_8 (by decide) (fun c_18 => ?_) (fun c_18 => absurd c_18 (fun z => z (by decide)))
    refine lv_iconst (v := (-1)) hx hb dX11_post_22 (by decide) ?_
    exact W.iret (v := (-1)) hx hb hr (fun t ht hW => ⟨⟨(-1), (-1), rfl, rfl, (if_neg (fun z => hf_14 z)).symm⟩, hS.F ht⟩) hS.2.2 dX11_post_23
def wo_c_at : List Cond := [.fieldLink RX11 10 "TypingPool" "book" "LTypingPool$Book;", .methodLink RX11 201 yX1_hasPiece, .instanceMethod yX1_hasPiece, .selects RX1 yX1_hasPiece yX1_hasPiece, .initialized RX1]
def wm_c_at : List Cond := .code yX11_at cX11_at 3 (some .int) :: (wo_c_at ++ (wsX110 ++ (wm_c_hasPiece0 ++ ([] : List Cond))))
theorem gd_c_at : ∀ w ∈ wm_c_at, goodWord w = true := gd_c rfl (gd_a (by decide) (gd_a gd_wsX110 (gd_a gd_c_hasPiece0 gd_nil)))
set_option maxRecDepth 20000 in
theorem im_c_at : ∀ w ∈ wm_c_at, w ∈ lw_tbl := im_c (in_r [.code yX11_at cX11_at 3 (some .int)] [858] (by decide +kernel)) (in_app (in_r wo_c_at [559, 859, 841, 842, 71] (by decide +kernel)) (in_app im_wsX110 (in_app im_c_hasPiece0 im_nil)))
set_option maxHeartbeats 4000000 in
set_option maxRecDepth 100000 in
theorem c_at (l : Launch) (dC : Nat → ClassId) (dI : Nat → Nat → Nat) (ad av : Nat → Nat) (sz : Nat) (h0 : Nat) (a : Nat → Nat) (k : Nat → ClassId) (p0 : Int32) (p1 : Int32) : Met l yX11_at wm_c_at ({ frames := 4, cells := 0, slots := 0, locals := 200 }) (pr_ ad av (dC, dI) sz [.ref h0, .int p0, .int p1] [(h0, .inr (11, [.ref (a 1), .ref (a 2), .ref (a 3), .ref (a 4), .ref (a 5), .ref (a 6), .ref (a 7), .int 0, .ref (a 8), .int 0])), ((a 1), .inr (1, [.ref (a 9), .int 0, .ref (a 10), .int 0, .ref (a 11), .int 0, .ref (a 12), .int 0]))] []) (va_Qi (fun (r u : Int32) => u = r) (fun (r : Int32) (t : State) => (r = (-1))) (va_A [(h0, .inr (11, [.ref (a 1), .ref (a 2), .ref (a 3), .ref (a 4), .ref (a 5), .ref (a 6), .ref (a 7), .int 0, .ref (a 8), .int 0])), ((a 1), .inr (1, [.ref (a 9), .int 0, .ref (a 10), .int 0, .ref (a 11), .int 0, .ref (a 12), .int 0]))] sz)) 0 0 (va_A [(h0, .inr (11, [.ref (a 1), .ref (a 2), .ref (a 3), .ref (a 4), .ref (a 5), .ref (a 6), .ref (a 7), .int 0, .ref (a 8), .int 0])), ((a 1), .inr (1, [.ref (a 9), .int 0, .ref (a 10), .int 0, .ref (a 11), .int 0, .ref (a 12), .int 0]))] sz) := by
  refine Met.ofW (cc := cX11_at) (maxL := 3) (ret := (some .int)) (by decide) rfl ?_
  intro p e s m args below meth c s₁ B hml hv
  obtain ⟨rfl, hsz, hP, hK, hD0, hM⟩ := hv
  have hx := B.exec
  have hb := B.bytes
  have hr := B.returns
  have hts := atoms_spec (ws := wm_c_at) B.pre
  have hown : s.vm.findClass RX11 = some m.cls := findClass_of_methodNamed B.named
  have hlocks := B.notSynchronized
  subst hsz
  have hD := hD0.self (sz := s.heap.size)
  generalize hAe : va_A [(h0, .inr (11, [.ref (a 1), .ref (a 2), .ref (a 3), .ref (a 4), .ref (a 5), .ref (a 6), .ref (a 7), .int 0, .ref (a 8), .int 0])), ((a 1), .inr (1, [.ref (a 9), .int 0, .ref (a 10), .int 0, .ref (a 11), .int 0, .ref (a 12), .int 0]))] s.heap.size = A at hD hM ⊢
  have hA : ∀ q : Nat, s.heap.size ≤ q → A q := fun q h => by rw [← hAe]; exact Or.inr h
  have hS : va_S A s.heap s.heap [] := va_S.rf
  have hP : va_P (dC, dI) vwCl [(h0, .inr (11, [.ref (a 1), .ref (a 2), .ref (a 3), .ref (a 4), .ref (a 5), .ref (a 6), .ref (a 7), .int 0, .ref (a 8), .int 0])), ((a 1), .inr (1, [.ref (a 9), .int 0, .ref (a 10), .int 0, .ref (a 11), .int 0, .ref (a 12), .int 0]))] s.heap := hP
  have hl := lv_entry ([.ref h0, .int p0, .int p1]) (n := 3) (Nat.le_of_ble_eq_true rfl)
  rw [lg_entry_eq]
  generalize (lg_sl ([.ref h0, .int p0, .int p1]) ++ List.replicate (3 - (lg_sl ([.ref h0, .int p0, .int p1])).length) Slot.unset).toArray = ls at hl ⊢
  have hl : lv_has ls 3 [(0, .ref h0), (1, .int p0), (2, .int p1)] := hl
  refine lv_aload_n hx hb dX11_at_0 rfl (lv_at hl 0 rfl) ?_
  refine va_get (D := (dC, dI)) (ci := 11) (v := .ref (a 1)) (C := RX11) (T := TX11) (N := 10) hx hb hts (fun _ hh => (List.mem_cons_of_mem _ (List.mem_append_right _ (List.mem_append_left _ hh)))) hown hK hP 0 rfl rfl 0 (by decide) (hts (.fieldLink RX11 10 "TypingPool" "book" "LTypingPool$Book;") (List.mem_cons_of_mem _ (List.mem_append_left _ (List.mem_of_getElem? (i := 0) rfl)))) (fun _ h9 => h9) rfl dX11_at_1 ?_
  refine lv_iload_n hx hb dX11_at_4 rfl (lv_at hl 1 rfl) ?_
  have hPc := hP.sub (ws' := [((a 1), .inr (1, [.ref (a 9), .int 0, .ref (a 10), .int 0, .ref (a 11), .int 0, .ref (a 12), .int 0]))]) [1] rfl
  have hDc := hD.sub (ws' := [((a 1), .inr (1, [.ref (a 9), .int 0, .ref (a 10), .int 0, .ref (a 11), .int 0, .ref (a 12), .int 0]))]) [1] (by decide) rfl
  have hKc := hK.sub (tys' := []) [] rfl
  have hFc := va_free (wc := [((a 1), .inr (1, [.ref (a 9), .int 0, .ref (a 10), .int 0, .ref (a 11), .int 0, .ref (a 12), .int 0]))]) hD hS hA [1] rfl
  refine va_calli (va_runV (As := [.int p0]) (rest := []) ⟨hx, hb, hml, hown, hts⟩ (c_hasPiece0 l dC dI ad av s.heap.size (a 1) (a 9) (a 10) (a 11) (a 12) p0 ) (cwV 1 hts (gi_4 (List.mem_cons_of_mem _ (List.mem_append_left _ (List.mem_of_getElem? (i := 1) rfl))) (List.mem_cons_of_mem _ (List.mem_append_left _ (List.mem_of_getElem? (i := 2) rfl))) (List.mem_cons_of_mem _ (List.mem_append_left _ (List.mem_of_getElem? (i := 3) rfl))) (List.mem_cons_of_mem _ (List.mem_append_left _ (List.mem_of_getElem? (i := 4) rfl))) (fun _ hh => (List.mem_cons_of_mem _ (List.mem_append_right _ (List.mem_append_right _ (List.mem_append_left _ hh))))) gd_c_hasPiece0) rfl rfl rfl (by decide +kernel) ⟨Nat.le_of_ble_eq_true rfl, Nat.le_of_ble_eq_true rfl⟩) ⟨pr_blind, va_recv hKc hPc (ci := 1) (q0 := 0) rfl rfl, pr_use hPc hKc hDc hFc hS hM⟩ rfl rfl hl.1 rfl (lv_room (Nat.le_of_ble_eq_true rfl)) dX11_at_5 ⟨Nat.le_of_ble_eq_true rfl, Nat.le_of_ble_eq_true rfl⟩) hS (fun q _ h => hFc q h) hFc (fun r_19 u t H locs ht hvm hw hB hz1 hk1 hS => ?_)
  refine W.widen (k := 0) (n := 0) (Nat.le_of_ble_eq_true rfl) (Nat.le_of_ble_eq_true rfl) ?_
  subst hw
  obtain ⟨hre_20, hP1, hK1, hD1⟩ := hB
  refine lq_top (v := 0) hre_20 ?_
  rw [ht] at hP1
  have hK1 := va_K.moved hvm.symm hK1
  obtain ⟨hP, hD⟩ := va_join (wr := [(h0, .inr (11, [.ref (a 1), .ref (a 2), .ref (a 3), .ref (a 4), .ref (a 5), .ref (a 6), .ref (a 7), .int 0, .ref (a 8), .int 0]))]) (w1 := [((a 1), .inr (1, [.ref (a 9), .int 0, .ref (a 10), .int 0, .ref (a 11), .int 0, .ref (a 12), .int 0]))]) hP hD [1] [0] rfl rfl (by decide) (by decide) hk1 hFc hP1 hD1
  have hK := (hK.sub (tys' := []) [] rfl).app hK1
  have hP : va_P (dC, dI) vwCl [(h0, .inr (11, [.ref (a 1), .ref (a 2), .ref (a 3), .ref (a 4), .ref (a 5), .ref (a 6), .ref (a 7), .int 0, .ref (a 8), .int 0])), ((a 1), .inr (1, [.ref (a 9), .int 0, .ref (a 10), .int 0, .ref (a 11), .int 0, .ref (a 12), .int 0]))] H := hP
  have hD : va_D A [(h0, .inr (11, [.ref (a 1), .ref (a 2), .ref (a 3), .ref (a 4), .ref (a 5), .ref (a 6), .ref (a 7), .int 0, .ref (a 8), .int 0])), ((a 1), .inr (1, [.ref (a 9), .int 0, .ref (a 10), .int 0, .ref (a 11), .int 0, .ref (a 12), .int 0]))] := hD
  have hK : va_K (dC, dI) vwCl [] s := hK
  refine lv_if_ne (tgt := 13) hx hb dX11_at_8 (by decide) (fun c_21 => absurd c_21 (fun z => z (by decide))) (fun c_21 => ?_)
  refine lv_iconst (v := (-1)) hx hb dX11_at_11 (by decide) ?_
  exact W.iret (v := (-1)) hx hb hr (fun t ht hW => ⟨⟨(-1), (-1), rfl, rfl, rfl⟩, hS.F ht⟩) hS.2.2 dX11_at_12
def wo_c_may : List Cond := [.fieldLink RX11 10 "TypingPool" "book" "LTypingPool$Book;", .methodLink RX11 95 yX1_hasHand, .instanceMethod yX1_hasHand, .selects RX1 yX1_hasHand yX1_hasHand, .initialized RX1]
def wm_c_may : List Cond := .code yX11_may cX11_may 3 (some .int) :: (wo_c_may ++ (wsX110 ++ (wm_c_hasHand0 ++ ([] : List Cond))))
theorem gd_c_may : ∀ w ∈ wm_c_may, goodWord w = true := gd_c rfl (gd_a (by decide) (gd_a gd_wsX110 (gd_a gd_c_hasHand0 gd_nil)))
set_option maxRecDepth 20000 in
theorem im_c_may : ∀ w ∈ wm_c_may, w ∈ lw_tbl := im_c (in_r [.code yX11_may cX11_may 3 (some .int)] [873] (by decide +kernel)) (in_app (in_r wo_c_may [559, 629, 630, 631, 71] (by decide +kernel)) (in_app im_wsX110 (in_app im_c_hasHand0 im_nil)))
set_option maxHeartbeats 4000000 in
set_option maxRecDepth 100000 in
theorem c_may (l : Launch) (dC : Nat → ClassId) (dI : Nat → Nat → Nat) (ad av : Nat → Nat) (sz : Nat) (h0 : Nat) (a : Nat → Nat) (k : Nat → ClassId) (p0 : Int32) (p1 : Int32) : Met l yX11_may wm_c_may ({ frames := 4, cells := 0, slots := 0, locals := 200 }) (pr_ ad av (dC, dI) sz [.ref h0, .int p0, .int p1] [(h0, .inr (11, [.ref (a 1), .ref (a 2), .ref (a 3), .ref (a 4), .ref (a 5), .ref (a 6), .ref (a 7), .int 0, .ref (a 8), .int 0])), ((a 1), .inr (1, [.ref (a 9), .int 0, .ref (a 10), .int 0, .ref (a 11), .int 0, .ref (a 12), .int 0]))] []) (va_Qi (fun (r u : Int32) => u = r) (fun (r : Int32) (t : State) => (r = (-1))) (va_A [(h0, .inr (11, [.ref (a 1), .ref (a 2), .ref (a 3), .ref (a 4), .ref (a 5), .ref (a 6), .ref (a 7), .int 0, .ref (a 8), .int 0])), ((a 1), .inr (1, [.ref (a 9), .int 0, .ref (a 10), .int 0, .ref (a 11), .int 0, .ref (a 12), .int 0]))] sz)) 0 0 (va_A [(h0, .inr (11, [.ref (a 1), .ref (a 2), .ref (a 3), .ref (a 4), .ref (a 5), .ref (a 6), .ref (a 7), .int 0, .ref (a 8), .int 0])), ((a 1), .inr (1, [.ref (a 9), .int 0, .ref (a 10), .int 0, .ref (a 11), .int 0, .ref (a 12), .int 0]))] sz) := by
  refine Met.ofW (cc := cX11_may) (maxL := 3) (ret := (some .int)) (by decide) rfl ?_
  intro p e s m args below meth c s₁ B hml hv
  obtain ⟨rfl, hsz, hP, hK, hD0, hM⟩ := hv
  have hx := B.exec
  have hb := B.bytes
  have hr := B.returns
  have hts := atoms_spec (ws := wm_c_may) B.pre
  have hown : s.vm.findClass RX11 = some m.cls := findClass_of_methodNamed B.named
  have hlocks := B.notSynchronized
  subst hsz
  have hD := hD0.self (sz := s.heap.size)
  generalize hAe : va_A [(h0, .inr (11, [.ref (a 1), .ref (a 2), .ref (a 3), .ref (a 4), .ref (a 5), .ref (a 6), .ref (a 7), .int 0, .ref (a 8), .int 0])), ((a 1), .inr (1, [.ref (a 9), .int 0, .ref (a 10), .int 0, .ref (a 11), .int 0, .ref (a 12), .int 0]))] s.heap.size = A at hD hM ⊢
  have hA : ∀ q : Nat, s.heap.size ≤ q → A q := fun q h => by rw [← hAe]; exact Or.inr h
  have hS : va_S A s.heap s.heap [] := va_S.rf
  have hP : va_P (dC, dI) vwCl [(h0, .inr (11, [.ref (a 1), .ref (a 2), .ref (a 3), .ref (a 4), .ref (a 5), .ref (a 6), .ref (a 7), .int 0, .ref (a 8), .int 0])), ((a 1), .inr (1, [.ref (a 9), .int 0, .ref (a 10), .int 0, .ref (a 11), .int 0, .ref (a 12), .int 0]))] s.heap := hP
  have hl := lv_entry ([.ref h0, .int p0, .int p1]) (n := 3) (Nat.le_of_ble_eq_true rfl)
  rw [lg_entry_eq]
  generalize (lg_sl ([.ref h0, .int p0, .int p1]) ++ List.replicate (3 - (lg_sl ([.ref h0, .int p0, .int p1])).length) Slot.unset).toArray = ls at hl ⊢
  have hl : lv_has ls 3 [(0, .ref h0), (1, .int p0), (2, .int p1)] := hl
  refine lv_aload_n hx hb dX11_may_0 rfl (lv_at hl 0 rfl) ?_
  refine va_get (D := (dC, dI)) (ci := 11) (v := .ref (a 1)) (C := RX11) (T := TX11) (N := 10) hx hb hts (fun _ hh => (List.mem_cons_of_mem _ (List.mem_append_right _ (List.mem_append_left _ hh)))) hown hK hP 0 rfl rfl 0 (by decide) (hts (.fieldLink RX11 10 "TypingPool" "book" "LTypingPool$Book;") (List.mem_cons_of_mem _ (List.mem_append_left _ (List.mem_of_getElem? (i := 0) rfl)))) (fun _ h9 => h9) rfl dX11_may_1 ?_
  refine lv_iload_n hx hb dX11_may_4 rfl (lv_at hl 1 rfl) ?_
  have hPc := hP.sub (ws' := [((a 1), .inr (1, [.ref (a 9), .int 0, .ref (a 10), .int 0, .ref (a 11), .int 0, .ref (a 12), .int 0]))]) [1] rfl
  have hDc := hD.sub (ws' := [((a 1), .inr (1, [.ref (a 9), .int 0, .ref (a 10), .int 0, .ref (a 11), .int 0, .ref (a 12), .int 0]))]) [1] (by decide) rfl
  have hKc := hK.sub (tys' := []) [] rfl
  have hFc := va_free (wc := [((a 1), .inr (1, [.ref (a 9), .int 0, .ref (a 10), .int 0, .ref (a 11), .int 0, .ref (a 12), .int 0]))]) hD hS hA [1] rfl
  refine va_calli (va_runV (As := [.int p0]) (rest := []) ⟨hx, hb, hml, hown, hts⟩ (c_hasHand0 l dC dI ad av s.heap.size (a 1) (a 9) (a 10) (a 11) (a 12) p0 ) (cwV 1 hts (gi_4 (List.mem_cons_of_mem _ (List.mem_append_left _ (List.mem_of_getElem? (i := 1) rfl))) (List.mem_cons_of_mem _ (List.mem_append_left _ (List.mem_of_getElem? (i := 2) rfl))) (List.mem_cons_of_mem _ (List.mem_append_left _ (List.mem_of_getElem? (i := 3) rfl))) (List.mem_cons_of_mem _ (List.mem_append_left _ (List.mem_of_getElem? (i := 4) rfl))) (fun _ hh => (List.mem_cons_of_mem _ (List.mem_append_right _ (List.mem_append_right _ (List.mem_append_left _ hh))))) gd_c_hasHand0) rfl rfl rfl (by decide +kernel) ⟨Nat.le_of_ble_eq_true rfl, Nat.le_of_ble_eq_true rfl⟩) ⟨pr_blind, va_recv hKc hPc (ci := 1) (q0 := 0) rfl rfl, pr_use hPc hKc hDc hFc hS hM⟩ rfl rfl hl.1 rfl (lv_room (Nat.le_of_ble_eq_true rfl)) dX11_may_5 ⟨Nat.le_of_ble_eq_true rfl, Nat.le_of_ble_eq_true rfl⟩) hS (fun q _ h => hFc q h) hFc (fun r_22 u t H locs ht hvm hw hB hz1 hk1 hS => ?_)
  refine W.widen (k := 0) (n := 0) (Nat.le_of_ble_eq_true rfl) (Nat.le_of_ble_eq_true rfl) ?_
  subst hw
  obtain ⟨hre_23, hP1, hK1, hD1⟩ := hB
  refine lq_top (v := 0) hre_23 ?_
  rw [ht] at hP1
  have hK1 := va_K.moved hvm.symm hK1
  obtain ⟨hP, hD⟩ := va_join (wr := [(h0, .inr (11, [.ref (a 1), .ref (a 2), .ref (a 3), .ref (a 4), .ref (a 5), .ref (a 6), .ref (a 7), .int 0, .ref (a 8), .int 0]))]) (w1 := [((a 1), .inr (1, [.ref (a 9), .int 0, .ref (a 10), .int 0, .ref (a 11), .int 0, .ref (a 12), .int 0]))]) hP hD [1] [0] rfl rfl (by decide) (by decide) hk1 hFc hP1 hD1
  have hK := (hK.sub (tys' := []) [] rfl).app hK1
  have hP : va_P (dC, dI) vwCl [(h0, .inr (11, [.ref (a 1), .ref (a 2), .ref (a 3), .ref (a 4), .ref (a 5), .ref (a 6), .ref (a 7), .int 0, .ref (a 8), .int 0])), ((a 1), .inr (1, [.ref (a 9), .int 0, .ref (a 10), .int 0, .ref (a 11), .int 0, .ref (a 12), .int 0]))] H := hP
  have hD : va_D A [(h0, .inr (11, [.ref (a 1), .ref (a 2), .ref (a 3), .ref (a 4), .ref (a 5), .ref (a 6), .ref (a 7), .int 0, .ref (a 8), .int 0])), ((a 1), .inr (1, [.ref (a 9), .int 0, .ref (a 10), .int 0, .ref (a 11), .int 0, .ref (a 12), .int 0]))] := hD
  have hK : va_K (dC, dI) vwCl [] s := hK
  refine lv_if_eq (tgt := 22) hx hb dX11_may_8 (by decide) (fun c_24 => ?_) (fun c_24 => absurd c_24 (fun z => z (by decide)))
  refine lv_iconst (v := (-1)) hx hb dX11_may_22 (by decide) ?_
  exact W.iret (v := (-1)) hx hb hr (fun t ht hW => ⟨⟨(-1), (-1), rfl, rfl, rfl⟩, hS.F ht⟩) hS.2.2 dX11_may_23
def wo_c_goes : List Cond := [.fieldLink RX11 10 "TypingPool" "book" "LTypingPool$Book;", .methodLink RX11 201 yX1_hasPiece, .instanceMethod yX1_hasPiece, .selects RX1 yX1_hasPiece yX1_hasPiece, .initialized RX1]
def wm_c_goes : List Cond := .code yX11_goes cX11_goes 2 (some .int) :: (wo_c_goes ++ (wsX110 ++ (wm_c_hasPiece0 ++ ([] : List Cond))))
theorem gd_c_goes : ∀ w ∈ wm_c_goes, goodWord w = true := gd_c rfl (gd_a (by decide) (gd_a gd_wsX110 (gd_a gd_c_hasPiece0 gd_nil)))
set_option maxRecDepth 20000 in
theorem im_c_goes : ∀ w ∈ wm_c_goes, w ∈ lw_tbl := im_c (in_r [.code yX11_goes cX11_goes 2 (some .int)] [878] (by decide +kernel)) (in_app (in_r wo_c_goes [559, 859, 841, 842, 71] (by decide +kernel)) (in_app im_wsX110 (in_app im_c_hasPiece0 im_nil)))
set_option maxHeartbeats 4000000 in
set_option maxRecDepth 100000 in
theorem c_goes (l : Launch) (dC : Nat → ClassId) (dI : Nat → Nat → Nat) (ad av : Nat → Nat) (sz : Nat) (h0 : Nat) (a : Nat → Nat) (k : Nat → ClassId) (p0 : Int32) : Met l yX11_goes wm_c_goes ({ frames := 4, cells := 0, slots := 0, locals := 200 }) (pr_ ad av (dC, dI) sz [.ref h0, .int p0] [(h0, .inr (11, [.ref (a 1), .ref (a 2), .ref (a 3), .ref (a 4), .ref (a 5), .ref (a 6), .ref (a 7), .int 0, .ref (a 8), .int 0])), ((a 1), .inr (1, [.ref (a 9), .int 0, .ref (a 10), .int 0, .ref (a 11), .int 0, .ref (a 12), .int 0]))] []) (va_Qi (fun (r u : Int32) => u = r) (fun (r : Int32) (t : State) => (r = (-1))) (va_A [(h0, .inr (11, [.ref (a 1), .ref (a 2), .ref (a 3), .ref (a 4), .ref (a 5), .ref (a 6), .ref (a 7), .int 0, .ref (a 8), .int 0])), ((a 1), .inr (1, [.ref (a 9), .int 0, .ref (a 10), .int 0, .ref (a 11), .int 0, .ref (a 12), .int 0]))] sz)) 0 0 (va_A [(h0, .inr (11, [.ref (a 1), .ref (a 2), .ref (a 3), .ref (a 4), .ref (a 5), .ref (a 6), .ref (a 7), .int 0, .ref (a 8), .int 0])), ((a 1), .inr (1, [.ref (a 9), .int 0, .ref (a 10), .int 0, .ref (a 11), .int 0, .ref (a 12), .int 0]))] sz) := by
  refine Met.ofW (cc := cX11_goes) (maxL := 2) (ret := (some .int)) (by decide) rfl ?_
  intro p e s m args below meth c s₁ B hml hv
  obtain ⟨rfl, hsz, hP, hK, hD0, hM⟩ := hv
  have hx := B.exec
  have hb := B.bytes
  have hr := B.returns
  have hts := atoms_spec (ws := wm_c_goes) B.pre
  have hown : s.vm.findClass RX11 = some m.cls := findClass_of_methodNamed B.named
  have hlocks := B.notSynchronized
  subst hsz
  have hD := hD0.self (sz := s.heap.size)
  generalize hAe : va_A [(h0, .inr (11, [.ref (a 1), .ref (a 2), .ref (a 3), .ref (a 4), .ref (a 5), .ref (a 6), .ref (a 7), .int 0, .ref (a 8), .int 0])), ((a 1), .inr (1, [.ref (a 9), .int 0, .ref (a 10), .int 0, .ref (a 11), .int 0, .ref (a 12), .int 0]))] s.heap.size = A at hD hM ⊢
  have hA : ∀ q : Nat, s.heap.size ≤ q → A q := fun q h => by rw [← hAe]; exact Or.inr h
  have hS : va_S A s.heap s.heap [] := va_S.rf
  have hP : va_P (dC, dI) vwCl [(h0, .inr (11, [.ref (a 1), .ref (a 2), .ref (a 3), .ref (a 4), .ref (a 5), .ref (a 6), .ref (a 7), .int 0, .ref (a 8), .int 0])), ((a 1), .inr (1, [.ref (a 9), .int 0, .ref (a 10), .int 0, .ref (a 11), .int 0, .ref (a 12), .int 0]))] s.heap := hP
  have hl := lv_entry ([.ref h0, .int p0]) (n := 2) (Nat.le_of_ble_eq_true rfl)
  rw [lg_entry_eq]
  generalize (lg_sl ([.ref h0, .int p0]) ++ List.replicate (2 - (lg_sl ([.ref h0, .int p0])).length) Slot.unset).toArray = ls at hl ⊢
  have hl : lv_has ls 2 [(0, .ref h0), (1, .int p0)] := hl
  refine lv_aload_n hx hb dX11_goes_0 rfl (lv_at hl 0 rfl) ?_
  refine va_get (D := (dC, dI)) (ci := 11) (v := .ref (a 1)) (C := RX11) (T := TX11) (N := 10) hx hb hts (fun _ hh => (List.mem_cons_of_mem _ (List.mem_append_right _ (List.mem_append_left _ hh)))) hown hK hP 0 rfl rfl 0 (by decide) (hts (.fieldLink RX11 10 "TypingPool" "book" "LTypingPool$Book;") (List.mem_cons_of_mem _ (List.mem_append_left _ (List.mem_of_getElem? (i := 0) rfl)))) (fun _ h9 => h9) rfl dX11_goes_1 ?_
  refine lv_iload_n hx hb dX11_goes_4 rfl (lv_at hl 1 rfl) ?_
  have hPc := hP.sub (ws' := [((a 1), .inr (1, [.ref (a 9), .int 0, .ref (a 10), .int 0, .ref (a 11), .int 0, .ref (a 12), .int 0]))]) [1] rfl
  have hDc := hD.sub (ws' := [((a 1), .inr (1, [.ref (a 9), .int 0, .ref (a 10), .int 0, .ref (a 11), .int 0, .ref (a 12), .int 0]))]) [1] (by decide) rfl
  have hKc := hK.sub (tys' := []) [] rfl
  have hFc := va_free (wc := [((a 1), .inr (1, [.ref (a 9), .int 0, .ref (a 10), .int 0, .ref (a 11), .int 0, .ref (a 12), .int 0]))]) hD hS hA [1] rfl
  refine va_calli (va_runV (As := [.int p0]) (rest := []) ⟨hx, hb, hml, hown, hts⟩ (c_hasPiece0 l dC dI ad av s.heap.size (a 1) (a 9) (a 10) (a 11) (a 12) p0 ) (cwV 1 hts (gi_4 (List.mem_cons_of_mem _ (List.mem_append_left _ (List.mem_of_getElem? (i := 1) rfl))) (List.mem_cons_of_mem _ (List.mem_append_left _ (List.mem_of_getElem? (i := 2) rfl))) (List.mem_cons_of_mem _ (List.mem_append_left _ (List.mem_of_getElem? (i := 3) rfl))) (List.mem_cons_of_mem _ (List.mem_append_left _ (List.mem_of_getElem? (i := 4) rfl))) (fun _ hh => (List.mem_cons_of_mem _ (List.mem_append_right _ (List.mem_append_right _ (List.mem_append_left _ hh))))) gd_c_hasPiece0) rfl rfl rfl (by decide +kernel) ⟨Nat.le_of_ble_eq_true rfl, Nat.le_of_ble_eq_true rfl⟩) ⟨pr_blind, va_recv hKc hPc (ci := 1) (q0 := 0) rfl rfl, pr_use hPc hKc hDc hFc hS hM⟩ rfl rfl hl.1 rfl (lv_room (Nat.le_of_ble_eq_true rfl)) dX11_goes_5 ⟨Nat.le_of_ble_eq_true rfl, Nat.le_of_ble_eq_true rfl⟩) hS (fun q _ h => hFc q h) hFc (fun r_25 u t H locs ht hvm hw hB hz1 hk1 hS => ?_)
  refine W.widen (k := 0) (n := 0) (Nat.le_of_ble_eq_true rfl) (Nat.le_of_ble_eq_true rfl) ?_
  subst hw
  obtain ⟨hre_26, hP1, hK1, hD1⟩ := hB
  refine lq_top (v := 0) hre_26 ?_
  rw [ht] at hP1
  have hK1 := va_K.moved hvm.symm hK1
  obtain ⟨hP, hD⟩ := va_join (wr := [(h0, .inr (11, [.ref (a 1), .ref (a 2), .ref (a 3), .ref (a 4), .ref (a 5), .ref (a 6), .ref (a 7), .int 0, .ref (a 8), .int 0]))]) (w1 := [((a 1), .inr (1, [.ref (a 9), .int 0, .ref (a 10), .int 0, .ref (a 11), .int 0, .ref (a 12), .int 0]))]) hP hD [1] [0] rfl rfl (by decide) (by decide) hk1 hFc hP1 hD1
  have hK := (hK.sub (tys' := []) [] rfl).app hK1
  have hP : va_P (dC, dI) vwCl [(h0, .inr (11, [.ref (a 1), .ref (a 2), .ref (a 3), .ref (a 4), .ref (a 5), .ref (a 6), .ref (a 7), .int 0, .ref (a 8), .int 0])), ((a 1), .inr (1, [.ref (a 9), .int 0, .ref (a 10), .int 0, .ref (a 11), .int 0, .ref (a 12), .int 0]))] H := hP
  have hD : va_D A [(h0, .inr (11, [.ref (a 1), .ref (a 2), .ref (a 3), .ref (a 4), .ref (a 5), .ref (a 6), .ref (a 7), .int 0, .ref (a 8), .int 0])), ((a 1), .inr (1, [.ref (a 9), .int 0, .ref (a 10), .int 0, .ref (a 11), .int 0, .ref (a 12), .int 0]))] := hD
  have hK : va_K (dC, dI) vwCl [] s := hK
  refine lv_if_eq (tgt := 24) hx hb dX11_goes_8 (by decide) (fun c_27 => ?_) (fun c_27 => absurd c_27 (fun z => z (by decide)))
  refine lv_iconst (v := (-1)) hx hb dX11_goes_24 (by decide) ?_
  exact W.iret (v := (-1)) hx hb hr (fun t ht hW => ⟨⟨(-1), (-1), rfl, rfl, rfl⟩, hS.F ht⟩) hS.2.2 dX11_goes_25
def wo_c_left : List Cond := [.fieldLink RX11 10 "TypingPool" "book" "LTypingPool$Book;", .methodLink RX11 201 yX1_hasPiece, .instanceMethod yX1_hasPiece, .selects RX1 yX1_hasPiece yX1_hasPiece, .initialized RX1]
def wm_c_left : List Cond := .code yX11_left cX11_left 4 (some .int) :: (wo_c_left ++ (wsX110 ++ (wm_c_hasPiece0 ++ ([] : List Cond))))
theorem gd_c_left : ∀ w ∈ wm_c_left, goodWord w = true := gd_c rfl (gd_a (by decide) (gd_a gd_wsX110 (gd_a gd_c_hasPiece0 gd_nil)))
set_option maxRecDepth 20000 in
theorem im_c_left : ∀ w ∈ wm_c_left, w ∈ lw_tbl := im_c (in_r [.code yX11_left cX11_left 4 (some .int)] [983] (by decide +kernel)) (in_app (in_r wo_c_left [559, 859, 841, 842, 71] (by decide +kernel)) (in_app im_wsX110 (in_app im_c_hasPiece0 im_nil)))
set_option maxHeartbeats 4000000 in
set_option maxRecDepth 100000 in
theorem c_left (l : Launch) (dC : Nat → ClassId) (dI : Nat → Nat → Nat) (ad av : Nat → Nat) (sz : Nat) (h0 : Nat) (a : Nat → Nat) (k : Nat → ClassId) (p0 : Int32) (p1 : Int32) : Met l yX11_left wm_c_left ({ frames := 4, cells := 0, slots := 0, locals := 200 }) (pr_ ad av (dC, dI) sz [.ref h0, .int p0, .int p1] [(h0, .inr (11, [.ref (a 1), .ref (a 2), .ref (a 3), .ref (a 4), .ref (a 5), .ref (a 6), .ref (a 7), .int 0, .ref (a 8), .int 0])), ((a 1), .inr (1, [.ref (a 9), .int 0, .ref (a 10), .int 0, .ref (a 11), .int 0, .ref (a 12), .int 0]))] []) (va_Qi (fun (r u : Int32) => u = r) (fun (r : Int32) (t : State) => (r = (-1))) (va_A [(h0, .inr (11, [.ref (a 1), .ref (a 2), .ref (a 3), .ref (a 4), .ref (a 5), .ref (a 6), .ref (a 7), .int 0, .ref (a 8), .int 0])), ((a 1), .inr (1, [.ref (a 9), .int 0, .ref (a 10), .int 0, .ref (a 11), .int 0, .ref (a 12), .int 0]))] sz)) 0 0 (va_A [(h0, .inr (11, [.ref (a 1), .ref (a 2), .ref (a 3), .ref (a 4), .ref (a 5), .ref (a 6), .ref (a 7), .int 0, .ref (a 8), .int 0])), ((a 1), .inr (1, [.ref (a 9), .int 0, .ref (a 10), .int 0, .ref (a 11), .int 0, .ref (a 12), .int 0]))] sz) := by
  refine Met.ofW (cc := cX11_left) (maxL := 4) (ret := (some .int)) (by decide) rfl ?_
  intro p e s m args below meth c s₁ B hml hv
  obtain ⟨rfl, hsz, hP, hK, hD0, hM⟩ := hv
  have hx := B.exec
  have hb := B.bytes
  have hr := B.returns
  have hts := atoms_spec (ws := wm_c_left) B.pre
  have hown : s.vm.findClass RX11 = some m.cls := findClass_of_methodNamed B.named
  have hlocks := B.notSynchronized
  subst hsz
  have hD := hD0.self (sz := s.heap.size)
  generalize hAe : va_A [(h0, .inr (11, [.ref (a 1), .ref (a 2), .ref (a 3), .ref (a 4), .ref (a 5), .ref (a 6), .ref (a 7), .int 0, .ref (a 8), .int 0])), ((a 1), .inr (1, [.ref (a 9), .int 0, .ref (a 10), .int 0, .ref (a 11), .int 0, .ref (a 12), .int 0]))] s.heap.size = A at hD hM ⊢
  have hA : ∀ q : Nat, s.heap.size ≤ q → A q := fun q h => by rw [← hAe]; exact Or.inr h
  have hS : va_S A s.heap s.heap [] := va_S.rf
  have hP : va_P (dC, dI) vwCl [(h0, .inr (11, [.ref (a 1), .ref (a 2), .ref (a 3), .ref (a 4), .ref (a 5), .ref (a 6), .ref (a 7), .int 0, .ref (a 8), .int 0])), ((a 1), .inr (1, [.ref (a 9), .int 0, .ref (a 10), .int 0, .ref (a 11), .int 0, .ref (a 12), .int 0]))] s.heap := hP
  have hl := lv_entry ([.ref h0, .int p0, .int p1]) (n := 4) (Nat.le_of_ble_eq_true rfl)
  rw [lg_entry_eq]
  generalize (lg_sl ([.ref h0, .int p0, .int p1]) ++ List.replicate (4 - (lg_sl ([.ref h0, .int p0, .int p1])).length) Slot.unset).toArray = ls at hl ⊢
  have hl : lv_has ls 4 [(0, .ref h0), (1, .int p0), (2, .int p1)] := hl
  refine lv_aload_n hx hb dX11_left_0 rfl (lv_at hl 0 rfl) ?_
  refine va_get (D := (dC, dI)) (ci := 11) (v := .ref (a 1)) (C := RX11) (T := TX11) (N := 10) hx hb hts (fun _ hh => (List.mem_cons_of_mem _ (List.mem_append_right _ (List.mem_append_left _ hh)))) hown hK hP 0 rfl rfl 0 (by decide) (hts (.fieldLink RX11 10 "TypingPool" "book" "LTypingPool$Book;") (List.mem_cons_of_mem _ (List.mem_append_left _ (List.mem_of_getElem? (i := 0) rfl)))) (fun _ h9 => h9) rfl dX11_left_1 ?_
  refine lv_iload_n hx hb dX11_left_4 rfl (lv_at hl 1 rfl) ?_
  have hPc := hP.sub (ws' := [((a 1), .inr (1, [.ref (a 9), .int 0, .ref (a 10), .int 0, .ref (a 11), .int 0, .ref (a 12), .int 0]))]) [1] rfl
  have hDc := hD.sub (ws' := [((a 1), .inr (1, [.ref (a 9), .int 0, .ref (a 10), .int 0, .ref (a 11), .int 0, .ref (a 12), .int 0]))]) [1] (by decide) rfl
  have hKc := hK.sub (tys' := []) [] rfl
  have hFc := va_free (wc := [((a 1), .inr (1, [.ref (a 9), .int 0, .ref (a 10), .int 0, .ref (a 11), .int 0, .ref (a 12), .int 0]))]) hD hS hA [1] rfl
  refine va_calli (va_runV (As := [.int p0]) (rest := []) ⟨hx, hb, hml, hown, hts⟩ (c_hasPiece0 l dC dI ad av s.heap.size (a 1) (a 9) (a 10) (a 11) (a 12) p0 ) (cwV 1 hts (gi_4 (List.mem_cons_of_mem _ (List.mem_append_left _ (List.mem_of_getElem? (i := 1) rfl))) (List.mem_cons_of_mem _ (List.mem_append_left _ (List.mem_of_getElem? (i := 2) rfl))) (List.mem_cons_of_mem _ (List.mem_append_left _ (List.mem_of_getElem? (i := 3) rfl))) (List.mem_cons_of_mem _ (List.mem_append_left _ (List.mem_of_getElem? (i := 4) rfl))) (fun _ hh => (List.mem_cons_of_mem _ (List.mem_append_right _ (List.mem_append_right _ (List.mem_append_left _ hh))))) gd_c_hasPiece0) rfl rfl rfl (by decide +kernel) ⟨Nat.le_of_ble_eq_true rfl, Nat.le_of_ble_eq_true rfl⟩) ⟨pr_blind, va_recv hKc hPc (ci := 1) (q0 := 0) rfl rfl, pr_use hPc hKc hDc hFc hS hM⟩ rfl rfl hl.1 rfl (lv_room (Nat.le_of_ble_eq_true rfl)) dX11_left_5 ⟨Nat.le_of_ble_eq_true rfl, Nat.le_of_ble_eq_true rfl⟩) hS (fun q _ h => hFc q h) hFc (fun r_28 u t H locs ht hvm hw hB hz1 hk1 hS => ?_)
  refine W.widen (k := 0) (n := 0) (Nat.le_of_ble_eq_true rfl) (Nat.le_of_ble_eq_true rfl) ?_
  subst hw
  obtain ⟨hre_29, hP1, hK1, hD1⟩ := hB
  refine lq_top (v := 0) hre_29 ?_
  rw [ht] at hP1
  have hK1 := va_K.moved hvm.symm hK1
  obtain ⟨hP, hD⟩ := va_join (wr := [(h0, .inr (11, [.ref (a 1), .ref (a 2), .ref (a 3), .ref (a 4), .ref (a 5), .ref (a 6), .ref (a 7), .int 0, .ref (a 8), .int 0]))]) (w1 := [((a 1), .inr (1, [.ref (a 9), .int 0, .ref (a 10), .int 0, .ref (a 11), .int 0, .ref (a 12), .int 0]))]) hP hD [1] [0] rfl rfl (by decide) (by decide) hk1 hFc hP1 hD1
  have hK := (hK.sub (tys' := []) [] rfl).app hK1
  have hP : va_P (dC, dI) vwCl [(h0, .inr (11, [.ref (a 1), .ref (a 2), .ref (a 3), .ref (a 4), .ref (a 5), .ref (a 6), .ref (a 7), .int 0, .ref (a 8), .int 0])), ((a 1), .inr (1, [.ref (a 9), .int 0, .ref (a 10), .int 0, .ref (a 11), .int 0, .ref (a 12), .int 0]))] H := hP
  have hD : va_D A [(h0, .inr (11, [.ref (a 1), .ref (a 2), .ref (a 3), .ref (a 4), .ref (a 5), .ref (a 6), .ref (a 7), .int 0, .ref (a 8), .int 0])), ((a 1), .inr (1, [.ref (a 9), .int 0, .ref (a 10), .int 0, .ref (a 11), .int 0, .ref (a 12), .int 0]))] := hD
  have hK : va_K (dC, dI) vwCl [] s := hK
  refine lv_if_ne (tgt := 13) hx hb dX11_left_8 (by decide) (fun c_30 => absurd c_30 (fun z => z (by decide))) (fun c_30 => ?_)
  refine lv_iconst (v := (-1)) hx hb dX11_left_11 (by decide) ?_
  exact W.iret (v := (-1)) hx hb hr (fun t ht hW => ⟨⟨(-1), (-1), rfl, rfl, rfl⟩, hS.F ht⟩) hS.2.2 dX11_left_12
def wo_c_quick : List Cond := [.fieldLink RX11 10 "TypingPool" "book" "LTypingPool$Book;", .methodLink RX11 95 yX1_hasHand, .instanceMethod yX1_hasHand, .selects RX1 yX1_hasHand yX1_hasHand, .initialized RX1]
def wm_c_quick : List Cond := .code yX11_quick cX11_quick 3 (some .int) :: (wo_c_quick ++ (wsX110 ++ (wm_c_hasHand0 ++ ([] : List Cond))))
theorem gd_c_quick : ∀ w ∈ wm_c_quick, goodWord w = true := gd_c rfl (gd_a (by decide) (gd_a gd_wsX110 (gd_a gd_c_hasHand0 gd_nil)))
set_option maxRecDepth 20000 in
theorem im_c_quick : ∀ w ∈ wm_c_quick, w ∈ lw_tbl := im_c (in_r [.code yX11_quick cX11_quick 3 (some .int)] [992] (by decide +kernel)) (in_app (in_r wo_c_quick [559, 629, 630, 631, 71] (by decide +kernel)) (in_app im_wsX110 (in_app im_c_hasHand0 im_nil)))
set_option maxHeartbeats 4000000 in
set_option maxRecDepth 100000 in
theorem c_quick (l : Launch) (dC : Nat → ClassId) (dI : Nat → Nat → Nat) (ad av : Nat → Nat) (sz : Nat) (h0 : Nat) (a : Nat → Nat) (k : Nat → ClassId) (p0 : Int32) (p1 : Int32) : Met l yX11_quick wm_c_quick ({ frames := 4, cells := 0, slots := 0, locals := 200 }) (pr_ ad av (dC, dI) sz [.ref h0, .int p0, .int p1] [(h0, .inr (11, [.ref (a 1), .ref (a 2), .ref (a 3), .ref (a 4), .ref (a 5), .ref (a 6), .ref (a 7), .int 0, .ref (a 8), .int 0])), ((a 1), .inr (1, [.ref (a 9), .int 0, .ref (a 10), .int 0, .ref (a 11), .int 0, .ref (a 12), .int 0]))] []) (va_Qi (fun (r u : Int32) => u = r) (fun (r : Int32) (t : State) => (r = (-1))) (va_A [(h0, .inr (11, [.ref (a 1), .ref (a 2), .ref (a 3), .ref (a 4), .ref (a 5), .ref (a 6), .ref (a 7), .int 0, .ref (a 8), .int 0])), ((a 1), .inr (1, [.ref (a 9), .int 0, .ref (a 10), .int 0, .ref (a 11), .int 0, .ref (a 12), .int 0]))] sz)) 0 0 (va_A [(h0, .inr (11, [.ref (a 1), .ref (a 2), .ref (a 3), .ref (a 4), .ref (a 5), .ref (a 6), .ref (a 7), .int 0, .ref (a 8), .int 0])), ((a 1), .inr (1, [.ref (a 9), .int 0, .ref (a 10), .int 0, .ref (a 11), .int 0, .ref (a 12), .int 0]))] sz) := by
  refine Met.ofW (cc := cX11_quick) (maxL := 3) (ret := (some .int)) (by decide) rfl ?_
  intro p e s m args below meth c s₁ B hml hv
  obtain ⟨rfl, hsz, hP, hK, hD0, hM⟩ := hv
  have hx := B.exec
  have hb := B.bytes
  have hr := B.returns
  have hts := atoms_spec (ws := wm_c_quick) B.pre
  have hown : s.vm.findClass RX11 = some m.cls := findClass_of_methodNamed B.named
  have hlocks := B.notSynchronized
  subst hsz
  have hD := hD0.self (sz := s.heap.size)
  generalize hAe : va_A [(h0, .inr (11, [.ref (a 1), .ref (a 2), .ref (a 3), .ref (a 4), .ref (a 5), .ref (a 6), .ref (a 7), .int 0, .ref (a 8), .int 0])), ((a 1), .inr (1, [.ref (a 9), .int 0, .ref (a 10), .int 0, .ref (a 11), .int 0, .ref (a 12), .int 0]))] s.heap.size = A at hD hM ⊢
  have hA : ∀ q : Nat, s.heap.size ≤ q → A q := fun q h => by rw [← hAe]; exact Or.inr h
  have hS : va_S A s.heap s.heap [] := va_S.rf
  have hP : va_P (dC, dI) vwCl [(h0, .inr (11, [.ref (a 1), .ref (a 2), .ref (a 3), .ref (a 4), .ref (a 5), .ref (a 6), .ref (a 7), .int 0, .ref (a 8), .int 0])), ((a 1), .inr (1, [.ref (a 9), .int 0, .ref (a 10), .int 0, .ref (a 11), .int 0, .ref (a 12), .int 0]))] s.heap := hP
  have hl := lv_entry ([.ref h0, .int p0, .int p1]) (n := 3) (Nat.le_of_ble_eq_true rfl)
  rw [lg_entry_eq]
  generalize (lg_sl ([.ref h0, .int p0, .int p1]) ++ List.replicate (3 - (lg_sl ([.ref h0, .int p0, .int p1])).length) Slot.unset).toArray = ls at hl ⊢
  have hl : lv_has ls 3 [(0, .ref h0), (1, .int p0), (2, .int p1)] := hl
  refine lv_aload_n hx hb dX11_quick_0 rfl (lv_at hl 0 rfl) ?_
  refine va_get (D := (dC, dI)) (ci := 11) (v := .ref (a 1)) (C := RX11) (T := TX11) (N := 10) hx hb hts (fun _ hh => (List.mem_cons_of_mem _ (List.mem_append_right _ (List.mem_append_left _ hh)))) hown hK hP 0 rfl rfl 0 (by decide) (hts (.fieldLink RX11 10 "TypingPool" "book" "LTypingPool$Book;") (List.mem_cons_of_mem _ (List.mem_append_left _ (List.mem_of_getElem? (i := 0) rfl)))) (fun _ h9 => h9) rfl dX11_quick_1 ?_
  refine lv_iload_n hx hb dX11_quick_4 rfl (lv_at hl 1 rfl) ?_
  have hPc := hP.sub (ws' := [((a 1), .inr (1, [.ref (a 9), .int 0, .ref (a 10), .int 0, .ref (a 11), .int 0, .ref (a 12), .int 0]))]) [1] rfl
  have hDc := hD.sub (ws' := [((a 1), .inr (1, [.ref (a 9), .int 0, .ref (a 10), .int 0, .ref (a 11), .int 0, .ref (a 12), .int 0]))]) [1] (by decide) rfl
  have hKc := hK.sub (tys' := []) [] rfl
  have hFc := va_free (wc := [((a 1), .inr (1, [.ref (a 9), .int 0, .ref (a 10), .int 0, .ref (a 11), .int 0, .ref (a 12), .int 0]))]) hD hS hA [1] rfl
  refine va_calli (va_runV (As := [.int p0]) (rest := []) ⟨hx, hb, hml, hown, hts⟩ (c_hasHand0 l dC dI ad av s.heap.size (a 1) (a 9) (a 10) (a 11) (a 12) p0 ) (cwV 1 hts (gi_4 (List.mem_cons_of_mem _ (List.mem_append_left _ (List.mem_of_getElem? (i := 1) rfl))) (List.mem_cons_of_mem _ (List.mem_append_left _ (List.mem_of_getElem? (i := 2) rfl))) (List.mem_cons_of_mem _ (List.mem_append_left _ (List.mem_of_getElem? (i := 3) rfl))) (List.mem_cons_of_mem _ (List.mem_append_left _ (List.mem_of_getElem? (i := 4) rfl))) (fun _ hh => (List.mem_cons_of_mem _ (List.mem_append_right _ (List.mem_append_right _ (List.mem_append_left _ hh))))) gd_c_hasHand0) rfl rfl rfl (by decide +kernel) ⟨Nat.le_of_ble_eq_true rfl, Nat.le_of_ble_eq_true rfl⟩) ⟨pr_blind, va_recv hKc hPc (ci := 1) (q0 := 0) rfl rfl, pr_use hPc hKc hDc hFc hS hM⟩ rfl rfl hl.1 rfl (lv_room (Nat.le_of_ble_eq_true rfl)) dX11_quick_5 ⟨Nat.le_of_ble_eq_true rfl, Nat.le_of_ble_eq_true rfl⟩) hS (fun q _ h => hFc q h) hFc (fun r_31 u t H locs ht hvm hw hB hz1 hk1 hS => ?_)
  refine W.widen (k := 0) (n := 0) (Nat.le_of_ble_eq_true rfl) (Nat.le_of_ble_eq_true rfl) ?_
  subst hw
  obtain ⟨hre_32, hP1, hK1, hD1⟩ := hB
  refine lq_top (v := 0) hre_32 ?_
  rw [ht] at hP1
  have hK1 := va_K.moved hvm.symm hK1
  obtain ⟨hP, hD⟩ := va_join (wr := [(h0, .inr (11, [.ref (a 1), .ref (a 2), .ref (a 3), .ref (a 4), .ref (a 5), .ref (a 6), .ref (a 7), .int 0, .ref (a 8), .int 0]))]) (w1 := [((a 1), .inr (1, [.ref (a 9), .int 0, .ref (a 10), .int 0, .ref (a 11), .int 0, .ref (a 12), .int 0]))]) hP hD [1] [0] rfl rfl (by decide) (by decide) hk1 hFc hP1 hD1
  have hK := (hK.sub (tys' := []) [] rfl).app hK1
  have hP : va_P (dC, dI) vwCl [(h0, .inr (11, [.ref (a 1), .ref (a 2), .ref (a 3), .ref (a 4), .ref (a 5), .ref (a 6), .ref (a 7), .int 0, .ref (a 8), .int 0])), ((a 1), .inr (1, [.ref (a 9), .int 0, .ref (a 10), .int 0, .ref (a 11), .int 0, .ref (a 12), .int 0]))] H := hP
  have hD : va_D A [(h0, .inr (11, [.ref (a 1), .ref (a 2), .ref (a 3), .ref (a 4), .ref (a 5), .ref (a 6), .ref (a 7), .int 0, .ref (a 8), .int 0])), ((a 1), .inr (1, [.ref (a 9), .int 0, .ref (a 10), .int 0, .ref (a 11), .int 0, .ref (a 12), .int 0]))] := hD
  have hK : va_K (dC, dI) vwCl [] s := hK
  refine lv_if_eq (tgt := 24) hx hb dX11_quick_8 (by decide) (fun c_33 => ?_) (fun c_33 => absurd c_33 (fun z => z (by decide)))
  refine lv_iconst (v := (-1)) hx hb dX11_quick_24 (by decide) ?_
  exact W.iret (v := (-1)) hx hb hr (fun t ht hW => ⟨⟨(-1), (-1), rfl, rfl, rfl⟩, hS.F ht⟩) hS.2.2 dX11_quick_25
def wo_c_faults : List Cond := [.fieldLink RX11 10 "TypingPool" "book" "LTypingPool$Book;", .methodLink RX11 95 yX1_hasHand, .instanceMethod yX1_hasHand, .selects RX1 yX1_hasHand yX1_hasHand, .initialized RX1]
def wm_c_faults : List Cond := .code yX11_faults cX11_faults 3 (some .int) :: (wo_c_faults ++ (wsX110 ++ (wm_c_hasHand0 ++ ([] : List Cond))))
theorem gd_c_faults : ∀ w ∈ wm_c_faults, goodWord w = true := gd_c rfl (gd_a (by decide) (gd_a gd_wsX110 (gd_a gd_c_hasHand0 gd_nil)))
set_option maxRecDepth 20000 in
theorem im_c_faults : ∀ w ∈ wm_c_faults, w ∈ lw_tbl := im_c (in_r [.code yX11_faults cX11_faults 3 (some .int)] [961] (by decide +kernel)) (in_app (in_r wo_c_faults [559, 629, 630, 631, 71] (by decide +kernel)) (in_app im_wsX110 (in_app im_c_hasHand0 im_nil)))
set_option maxHeartbeats 4000000 in
set_option maxRecDepth 100000 in
theorem c_faults (l : Launch) (dC : Nat → ClassId) (dI : Nat → Nat → Nat) (ad av : Nat → Nat) (sz : Nat) (h0 : Nat) (a : Nat → Nat) (k : Nat → ClassId) (p0 : Int32) (p1 : Int32) : Met l yX11_faults wm_c_faults ({ frames := 4, cells := 0, slots := 0, locals := 200 }) (pr_ ad av (dC, dI) sz [.ref h0, .int p0, .int p1] [(h0, .inr (11, [.ref (a 1), .ref (a 2), .ref (a 3), .ref (a 4), .ref (a 5), .ref (a 6), .ref (a 7), .int 0, .ref (a 8), .int 0])), ((a 1), .inr (1, [.ref (a 9), .int 0, .ref (a 10), .int 0, .ref (a 11), .int 0, .ref (a 12), .int 0]))] []) (va_Qi (fun (r u : Int32) => u = r) (fun (r : Int32) (t : State) => (r = (-1))) (va_A [(h0, .inr (11, [.ref (a 1), .ref (a 2), .ref (a 3), .ref (a 4), .ref (a 5), .ref (a 6), .ref (a 7), .int 0, .ref (a 8), .int 0])), ((a 1), .inr (1, [.ref (a 9), .int 0, .ref (a 10), .int 0, .ref (a 11), .int 0, .ref (a 12), .int 0]))] sz)) 0 0 (va_A [(h0, .inr (11, [.ref (a 1), .ref (a 2), .ref (a 3), .ref (a 4), .ref (a 5), .ref (a 6), .ref (a 7), .int 0, .ref (a 8), .int 0])), ((a 1), .inr (1, [.ref (a 9), .int 0, .ref (a 10), .int 0, .ref (a 11), .int 0, .ref (a 12), .int 0]))] sz) := by
  refine Met.ofW (cc := cX11_faults) (maxL := 3) (ret := (some .int)) (by decide) rfl ?_
  intro p e s m args below meth c s₁ B hml hv
  obtain ⟨rfl, hsz, hP, hK, hD0, hM⟩ := hv
  have hx := B.exec
  have hb := B.bytes
  have hr := B.returns
  have hts := atoms_spec (ws := wm_c_faults) B.pre
  have hown : s.vm.findClass RX11 = some m.cls := findClass_of_methodNamed B.named
  have hlocks := B.notSynchronized
  subst hsz
  have hD := hD0.self (sz := s.heap.size)
  generalize hAe : va_A [(h0, .inr (11, [.ref (a 1), .ref (a 2), .ref (a 3), .ref (a 4), .ref (a 5), .ref (a 6), .ref (a 7), .int 0, .ref (a 8), .int 0])), ((a 1), .inr (1, [.ref (a 9), .int 0, .ref (a 10), .int 0, .ref (a 11), .int 0, .ref (a 12), .int 0]))] s.heap.size = A at hD hM ⊢
  have hA : ∀ q : Nat, s.heap.size ≤ q → A q := fun q h => by rw [← hAe]; exact Or.inr h
  have hS : va_S A s.heap s.heap [] := va_S.rf
  have hP : va_P (dC, dI) vwCl [(h0, .inr (11, [.ref (a 1), .ref (a 2), .ref (a 3), .ref (a 4), .ref (a 5), .ref (a 6), .ref (a 7), .int 0, .ref (a 8), .int 0])), ((a 1), .inr (1, [.ref (a 9), .int 0, .ref (a 10), .int 0, .ref (a 11), .int 0, .ref (a 12), .int 0]))] s.heap := hP
  have hl := lv_entry ([.ref h0, .int p0, .int p1]) (n := 3) (Nat.le_of_ble_eq_true rfl)
  rw [lg_entry_eq]
  generalize (lg_sl ([.ref h0, .int p0, .int p1]) ++ List.replicate (3 - (lg_sl ([.ref h0, .int p0, .int p1])).length) Slot.unset).toArray = ls at hl ⊢
  have hl : lv_has ls 3 [(0, .ref h0), (1, .int p0), (2, .int p1)] := hl
  refine lv_aload_n hx hb dX11_faults_0 rfl (lv_at hl 0 rfl) ?_
  refine va_get (D := (dC, dI)) (ci := 11) (v := .ref (a 1)) (C := RX11) (T := TX11) (N := 10) hx hb hts (fun _ hh => (List.mem_cons_of_mem _ (List.mem_append_right _ (List.mem_append_left _ hh)))) hown hK hP 0 rfl rfl 0 (by decide) (hts (.fieldLink RX11 10 "TypingPool" "book" "LTypingPool$Book;") (List.mem_cons_of_mem _ (List.mem_append_left _ (List.mem_of_getElem? (i := 0) rfl)))) (fun _ h9 => h9) rfl dX11_faults_1 ?_
  refine lv_iload_n hx hb dX11_faults_4 rfl (lv_at hl 1 rfl) ?_
  have hPc := hP.sub (ws' := [((a 1), .inr (1, [.ref (a 9), .int 0, .ref (a 10), .int 0, .ref (a 11), .int 0, .ref (a 12), .int 0]))]) [1] rfl
  have hDc := hD.sub (ws' := [((a 1), .inr (1, [.ref (a 9), .int 0, .ref (a 10), .int 0, .ref (a 11), .int 0, .ref (a 12), .int 0]))]) [1] (by decide) rfl
  have hKc := hK.sub (tys' := []) [] rfl
  have hFc := va_free (wc := [((a 1), .inr (1, [.ref (a 9), .int 0, .ref (a 10), .int 0, .ref (a 11), .int 0, .ref (a 12), .int 0]))]) hD hS hA [1] rfl
  refine va_calli (va_runV (As := [.int p0]) (rest := []) ⟨hx, hb, hml, hown, hts⟩ (c_hasHand0 l dC dI ad av s.heap.size (a 1) (a 9) (a 10) (a 11) (a 12) p0 ) (cwV 1 hts (gi_4 (List.mem_cons_of_mem _ (List.mem_append_left _ (List.mem_of_getElem? (i := 1) rfl))) (List.mem_cons_of_mem _ (List.mem_append_left _ (List.mem_of_getElem? (i := 2) rfl))) (List.mem_cons_of_mem _ (List.mem_append_left _ (List.mem_of_getElem? (i := 3) rfl))) (List.mem_cons_of_mem _ (List.mem_append_left _ (List.mem_of_getElem? (i := 4) rfl))) (fun _ hh => (List.mem_cons_of_mem _ (List.mem_append_right _ (List.mem_append_right _ (List.mem_append_left _ hh))))) gd_c_hasHand0) rfl rfl rfl (by decide +kernel) ⟨Nat.le_of_ble_eq_true rfl, Nat.le_of_ble_eq_true rfl⟩) ⟨pr_blind, va_recv hKc hPc (ci := 1) (q0 := 0) rfl rfl, pr_use hPc hKc hDc hFc hS hM⟩ rfl rfl hl.1 rfl (lv_room (Nat.le_of_ble_eq_true rfl)) dX11_faults_5 ⟨Nat.le_of_ble_eq_true rfl, Nat.le_of_ble_eq_true rfl⟩) hS (fun q _ h => hFc q h) hFc (fun r_34 u t H locs ht hvm hw hB hz1 hk1 hS => ?_)
  refine W.widen (k := 0) (n := 0) (Nat.le_of_ble_eq_true rfl) (Nat.le_of_ble_eq_true rfl) ?_
  subst hw
  obtain ⟨hre_35, hP1, hK1, hD1⟩ := hB
  refine lq_top (v := 0) hre_35 ?_
  rw [ht] at hP1
  have hK1 := va_K.moved hvm.symm hK1
  obtain ⟨hP, hD⟩ := va_join (wr := [(h0, .inr (11, [.ref (a 1), .ref (a 2), .ref (a 3), .ref (a 4), .ref (a 5), .ref (a 6), .ref (a 7), .int 0, .ref (a 8), .int 0]))]) (w1 := [((a 1), .inr (1, [.ref (a 9), .int 0, .ref (a 10), .int 0, .ref (a 11), .int 0, .ref (a 12), .int 0]))]) hP hD [1] [0] rfl rfl (by decide) (by decide) hk1 hFc hP1 hD1
  have hK := (hK.sub (tys' := []) [] rfl).app hK1
  have hP : va_P (dC, dI) vwCl [(h0, .inr (11, [.ref (a 1), .ref (a 2), .ref (a 3), .ref (a 4), .ref (a 5), .ref (a 6), .ref (a 7), .int 0, .ref (a 8), .int 0])), ((a 1), .inr (1, [.ref (a 9), .int 0, .ref (a 10), .int 0, .ref (a 11), .int 0, .ref (a 12), .int 0]))] H := hP
  have hD : va_D A [(h0, .inr (11, [.ref (a 1), .ref (a 2), .ref (a 3), .ref (a 4), .ref (a 5), .ref (a 6), .ref (a 7), .int 0, .ref (a 8), .int 0])), ((a 1), .inr (1, [.ref (a 9), .int 0, .ref (a 10), .int 0, .ref (a 11), .int 0, .ref (a 12), .int 0]))] := hD
  have hK : va_K (dC, dI) vwCl [] s := hK
  refine lv_if_eq (tgt := 20) hx hb dX11_faults_8 (by decide) (fun c_36 => ?_) (fun c_36 => absurd c_36 (fun z => z (by decide)))
  refine lv_iconst (v := (-1)) hx hb dX11_faults_20 (by decide) ?_
  exact W.iret (v := (-1)) hx hb hr (fun t ht hW => ⟨⟨(-1), (-1), rfl, rfl, rfl⟩, hS.F ht⟩) hS.2.2 dX11_faults_21
def wo_c_away : List Cond := [.fieldLink RX11 10 "TypingPool" "book" "LTypingPool$Book;", .methodLink RX11 95 yX1_hasHand, .instanceMethod yX1_hasHand, .selects RX1 yX1_hasHand yX1_hasHand, .initialized RX1]
def wm_c_away : List Cond := .code yX11_away cX11_away 5 (some .int) :: (wo_c_away ++ (wsX110 ++ (wm_c_hasHand0 ++ ([] : List Cond))))
theorem gd_c_away : ∀ w ∈ wm_c_away, goodWord w = true := gd_c rfl (gd_a (by decide) (gd_a gd_wsX110 (gd_a gd_c_hasHand0 gd_nil)))
set_option maxRecDepth 20000 in
theorem im_c_away : ∀ w ∈ wm_c_away, w ∈ lw_tbl := im_c (in_r [.code yX11_away cX11_away 5 (some .int)] [628] (by decide +kernel)) (in_app (in_r wo_c_away [559, 629, 630, 631, 71] (by decide +kernel)) (in_app im_wsX110 (in_app im_c_hasHand0 im_nil)))
set_option maxHeartbeats 4000000 in
set_option maxRecDepth 100000 in
theorem c_away (l : Launch) (dC : Nat → ClassId) (dI : Nat → Nat → Nat) (ad av : Nat → Nat) (sz : Nat) (h0 : Nat) (a : Nat → Nat) (k : Nat → ClassId) (p0 : Int32) (p1 : Int32) (p2 : Int32) : Met l yX11_away wm_c_away ({ frames := 4, cells := 0, slots := 0, locals := 200 }) (pr_ ad av (dC, dI) sz [.ref h0, .int p0, .int p1, .int p2] [(h0, .inr (11, [.ref (a 1), .ref (a 2), .ref (a 3), .ref (a 4), .ref (a 5), .ref (a 6), .ref (a 7), .int 0, .ref (a 8), .int 0])), ((a 1), .inr (1, [.ref (a 9), .int 0, .ref (a 10), .int 0, .ref (a 11), .int 0, .ref (a 12), .int 0]))] []) (va_Qi (fun (r u : Int32) => u = r) (fun (r : Int32) (t : State) => (r = (-1))) (va_A [(h0, .inr (11, [.ref (a 1), .ref (a 2), .ref (a 3), .ref (a 4), .ref (a 5), .ref (a 6), .ref (a 7), .int 0, .ref (a 8), .int 0])), ((a 1), .inr (1, [.ref (a 9), .int 0, .ref (a 10), .int 0, .ref (a 11), .int 0, .ref (a 12), .int 0]))] sz)) 0 0 (va_A [(h0, .inr (11, [.ref (a 1), .ref (a 2), .ref (a 3), .ref (a 4), .ref (a 5), .ref (a 6), .ref (a 7), .int 0, .ref (a 8), .int 0])), ((a 1), .inr (1, [.ref (a 9), .int 0, .ref (a 10), .int 0, .ref (a 11), .int 0, .ref (a 12), .int 0]))] sz) := by
  refine Met.ofW (cc := cX11_away) (maxL := 5) (ret := (some .int)) (by decide) rfl ?_
  intro p e s m args below meth c s₁ B hml hv
  obtain ⟨rfl, hsz, hP, hK, hD0, hM⟩ := hv
  have hx := B.exec
  have hb := B.bytes
  have hr := B.returns
  have hts := atoms_spec (ws := wm_c_away) B.pre
  have hown : s.vm.findClass RX11 = some m.cls := findClass_of_methodNamed B.named
  have hlocks := B.notSynchronized
  subst hsz
  have hD := hD0.self (sz := s.heap.size)
  generalize hAe : va_A [(h0, .inr (11, [.ref (a 1), .ref (a 2), .ref (a 3), .ref (a 4), .ref (a 5), .ref (a 6), .ref (a 7), .int 0, .ref (a 8), .int 0])), ((a 1), .inr (1, [.ref (a 9), .int 0, .ref (a 10), .int 0, .ref (a 11), .int 0, .ref (a 12), .int 0]))] s.heap.size = A at hD hM ⊢
  have hA : ∀ q : Nat, s.heap.size ≤ q → A q := fun q h => by rw [← hAe]; exact Or.inr h
  have hS : va_S A s.heap s.heap [] := va_S.rf
  have hP : va_P (dC, dI) vwCl [(h0, .inr (11, [.ref (a 1), .ref (a 2), .ref (a 3), .ref (a 4), .ref (a 5), .ref (a 6), .ref (a 7), .int 0, .ref (a 8), .int 0])), ((a 1), .inr (1, [.ref (a 9), .int 0, .ref (a 10), .int 0, .ref (a 11), .int 0, .ref (a 12), .int 0]))] s.heap := hP
  have hl := lv_entry ([.ref h0, .int p0, .int p1, .int p2]) (n := 5) (Nat.le_of_ble_eq_true rfl)
  rw [lg_entry_eq]
  generalize (lg_sl ([.ref h0, .int p0, .int p1, .int p2]) ++ List.replicate (5 - (lg_sl ([.ref h0, .int p0, .int p1, .int p2])).length) Slot.unset).toArray = ls at hl ⊢
  have hl : lv_has ls 5 [(0, .ref h0), (1, .int p0), (2, .int p1), (3, .int p2)] := hl
  refine lv_aload_n hx hb dX11_away_0 rfl (lv_at hl 0 rfl) ?_
  refine va_get (D := (dC, dI)) (ci := 11) (v := .ref (a 1)) (C := RX11) (T := TX11) (N := 10) hx hb hts (fun _ hh => (List.mem_cons_of_mem _ (List.mem_append_right _ (List.mem_append_left _ hh)))) hown hK hP 0 rfl rfl 0 (by decide) (hts (.fieldLink RX11 10 "TypingPool" "book" "LTypingPool$Book;") (List.mem_cons_of_mem _ (List.mem_append_left _ (List.mem_of_getElem? (i := 0) rfl)))) (fun _ h9 => h9) rfl dX11_away_1 ?_
  refine lv_iload_n hx hb dX11_away_4 rfl (lv_at hl 1 rfl) ?_
  have hPc := hP.sub (ws' := [((a 1), .inr (1, [.ref (a 9), .int 0, .ref (a 10), .int 0, .ref (a 11), .int 0, .ref (a 12), .int 0]))]) [1] rfl
  have hDc := hD.sub (ws' := [((a 1), .inr (1, [.ref (a 9), .int 0, .ref (a 10), .int 0, .ref (a 11), .int 0, .ref (a 12), .int 0]))]) [1] (by decide) rfl
  have hKc := hK.sub (tys' := []) [] rfl
  have hFc := va_free (wc := [((a 1), .inr (1, [.ref (a 9), .int 0, .ref (a 10), .int 0, .ref (a 11), .int 0, .ref (a 12), .int 0]))]) hD hS hA [1] rfl
  refine va_calli (va_runV (As := [.int p0]) (rest := []) ⟨hx, hb, hml, hown, hts⟩ (c_hasHand0 l dC dI ad av s.heap.size (a 1) (a 9) (a 10) (a 11) (a 12) p0 ) (cwV 1 hts (gi_4 (List.mem_cons_of_mem _ (List.mem_append_left _ (List.mem_of_getElem? (i := 1) rfl))) (List.mem_cons_of_mem _ (List.mem_append_left _ (List.mem_of_getElem? (i := 2) rfl))) (List.mem_cons_of_mem _ (List.mem_append_left _ (List.mem_of_getElem? (i := 3) rfl))) (List.mem_cons_of_mem _ (List.mem_append_left _ (List.mem_of_getElem? (i := 4) rfl))) (fun _ hh => (List.mem_cons_of_mem _ (List.mem_append_right _ (List.mem_append_right _ (List.mem_append_left _ hh))))) gd_c_hasHand0) rfl rfl rfl (by decide +kernel) ⟨Nat.le_of_ble_eq_true rfl, Nat.le_of_ble_eq_true rfl⟩) ⟨pr_blind, va_recv hKc hPc (ci := 1) (q0 := 0) rfl rfl, pr_use hPc hKc hDc hFc hS hM⟩ rfl rfl hl.1 rfl (lv_room (Nat.le_of_ble_eq_true rfl)) dX11_away_5 ⟨Nat.le_of_ble_eq_true rfl, Nat.le_of_ble_eq_true rfl⟩) hS (fun q _ h => hFc q h) hFc (fun r_37 u t H locs ht hvm hw hB hz1 hk1 hS => ?_)
  refine W.widen (k := 0) (n := 0) (Nat.le_of_ble_eq_true rfl) (Nat.le_of_ble_eq_true rfl) ?_
  subst hw
  obtain ⟨hre_38, hP1, hK1, hD1⟩ := hB
  refine lq_top (v := 0) hre_38 ?_
  rw [ht] at hP1
  have hK1 := va_K.moved hvm.symm hK1
  obtain ⟨hP, hD⟩ := va_join (wr := [(h0, .inr (11, [.ref (a 1), .ref (a 2), .ref (a 3), .ref (a 4), .ref (a 5), .ref (a 6), .ref (a 7), .int 0, .ref (a 8), .int 0]))]) (w1 := [((a 1), .inr (1, [.ref (a 9), .int 0, .ref (a 10), .int 0, .ref (a 11), .int 0, .ref (a 12), .int 0]))]) hP hD [1] [0] rfl rfl (by decide) (by decide) hk1 hFc hP1 hD1
  have hK := (hK.sub (tys' := []) [] rfl).app hK1
  have hP : va_P (dC, dI) vwCl [(h0, .inr (11, [.ref (a 1), .ref (a 2), .ref (a 3), .ref (a 4), .ref (a 5), .ref (a 6), .ref (a 7), .int 0, .ref (a 8), .int 0])), ((a 1), .inr (1, [.ref (a 9), .int 0, .ref (a 10), .int 0, .ref (a 11), .int 0, .ref (a 12), .int 0]))] H := hP
  have hD : va_D A [(h0, .inr (11, [.ref (a 1), .ref (a 2), .ref (a 3), .ref (a 4), .ref (a 5), .ref (a 6), .ref (a 7), .int 0, .ref (a 8), .int 0])), ((a 1), .inr (1, [.ref (a 9), .int 0, .ref (a 10), .int 0, .ref (a 11), .int 0, .ref (a 12), .int 0]))] := hD
  have hK : va_K (dC, dI) vwCl [] s := hK
  refine lv_if_eq (tgt := 44) hx hb dX11_away_8 (by decide) (fun c_39 => ?_) (fun c_39 => absurd c_39 (fun z => z (by decide)))
  refine lv_iconst (v := 0) hx hb dX11_away_44 (by decide) ?_
  refine lv_istore (lv' := [(4, .int 0), (0, .ref h0), (1, .int p0), (2, .int p1), (3, .int p2)]) hx hb dX11_away_45 hl (by decide) rfl (fun ls hl => ?_)
  refine lv_iload hx hb dX11_away_47 (lv_at hl 0 rfl) ?_
  refine lv_if_eq (tgt := 64) hx hb dX11_away_49 (by decide) (fun c_40 => ?_) (fun c_40 => absurd c_40 (fun z => z (by decide)))
  refine lv_iconst (v := (-1)) hx hb dX11_away_64 (by decide) ?_
  exact W.iret (v := (-1)) hx hb hr (fun t ht hW => ⟨⟨(-1), (-1), rfl, rfl, rfl⟩, hS.F ht⟩) hS.2.2 dX11_away_65
def wo_c_correct : List Cond := [.fieldLink RX11 10 "TypingPool" "book" "LTypingPool$Book;", .methodLink RX11 201 yX1_hasPiece, .instanceMethod yX1_hasPiece, .selects RX1 yX1_hasPiece yX1_hasPiece, .initialized RX1]
def wm_c_correct : List Cond := .code yX11_correct cX11_correct 8 (some .int) :: (wo_c_correct ++ (wsX110 ++ (wm_c_hasPiece0 ++ ([] : List Cond))))
theorem gd_c_correct : ∀ w ∈ wm_c_correct, goodWord w = true := gd_c rfl (gd_a (by decide) (gd_a gd_wsX110 (gd_a gd_c_hasPiece0 gd_nil)))
set_option maxRecDepth 20000 in
theorem im_c_correct : ∀ w ∈ wm_c_correct, w ∈ lw_tbl := im_c (in_r [.code yX11_correct cX11_correct 8 (some .int)] [899] (by decide +kernel)) (in_app (in_r wo_c_correct [559, 859, 841, 842, 71] (by decide +kernel)) (in_app im_wsX110 (in_app im_c_hasPiece0 im_nil)))
set_option maxHeartbeats 4000000 in
set_option maxRecDepth 100000 in
theorem c_correct (l : Launch) (dC : Nat → ClassId) (dI : Nat → Nat → Nat) (ad av : Nat → Nat) (sz : Nat) (h0 : Nat) (a : Nat → Nat) (k : Nat → ClassId) (p0 : Int32) (p1 : Int32) (p2 : Int32) (p3 : Int32) (p4 : Int32) : Met l yX11_correct wm_c_correct ({ frames := 4, cells := 0, slots := 0, locals := 200 }) (pr_ ad av (dC, dI) sz [.ref h0, .int p0, .int p1, .int p2, .int p3, .int p4] [(h0, .inr (11, [.ref (a 1), .ref (a 2), .ref (a 3), .ref (a 4), .ref (a 5), .ref (a 6), .ref (a 7), .int 0, .ref (a 8), .int 0])), ((a 1), .inr (1, [.ref (a 9), .int 0, .ref (a 10), .int 0, .ref (a 11), .int 0, .ref (a 12), .int 0]))] []) (va_Qi (fun (r u : Int32) => u = r) (fun (r : Int32) (t : State) => (r = (-1))) (va_A [(h0, .inr (11, [.ref (a 1), .ref (a 2), .ref (a 3), .ref (a 4), .ref (a 5), .ref (a 6), .ref (a 7), .int 0, .ref (a 8), .int 0])), ((a 1), .inr (1, [.ref (a 9), .int 0, .ref (a 10), .int 0, .ref (a 11), .int 0, .ref (a 12), .int 0]))] sz)) 0 0 (va_A [(h0, .inr (11, [.ref (a 1), .ref (a 2), .ref (a 3), .ref (a 4), .ref (a 5), .ref (a 6), .ref (a 7), .int 0, .ref (a 8), .int 0])), ((a 1), .inr (1, [.ref (a 9), .int 0, .ref (a 10), .int 0, .ref (a 11), .int 0, .ref (a 12), .int 0]))] sz) := by
  refine Met.ofW (cc := cX11_correct) (maxL := 8) (ret := (some .int)) (by decide) rfl ?_
  intro p e s m args below meth c s₁ B hml hv
  obtain ⟨rfl, hsz, hP, hK, hD0, hM⟩ := hv
  have hx := B.exec
  have hb := B.bytes
  have hr := B.returns
  have hts := atoms_spec (ws := wm_c_correct) B.pre
  have hown : s.vm.findClass RX11 = some m.cls := findClass_of_methodNamed B.named
  have hlocks := B.notSynchronized
  subst hsz
  have hD := hD0.self (sz := s.heap.size)
  generalize hAe : va_A [(h0, .inr (11, [.ref (a 1), .ref (a 2), .ref (a 3), .ref (a 4), .ref (a 5), .ref (a 6), .ref (a 7), .int 0, .ref (a 8), .int 0])), ((a 1), .inr (1, [.ref (a 9), .int 0, .ref (a 10), .int 0, .ref (a 11), .int 0, .ref (a 12), .int 0]))] s.heap.size = A at hD hM ⊢
  have hA : ∀ q : Nat, s.heap.size ≤ q → A q := fun q h => by rw [← hAe]; exact Or.inr h
  have hS : va_S A s.heap s.heap [] := va_S.rf
  have hP : va_P (dC, dI) vwCl [(h0, .inr (11, [.ref (a 1), .ref (a 2), .ref (a 3), .ref (a 4), .ref (a 5), .ref (a 6), .ref (a 7), .int 0, .ref (a 8), .int 0])), ((a 1), .inr (1, [.ref (a 9), .int 0, .ref (a 10), .int 0, .ref (a 11), .int 0, .ref (a 12), .int 0]))] s.heap := hP
  have hl := lv_entry ([.ref h0, .int p0, .int p1, .int p2, .int p3, .int p4]) (n := 8) (Nat.le_of_ble_eq_true rfl)
  rw [lg_entry_eq]
  generalize (lg_sl ([.ref h0, .int p0, .int p1, .int p2, .int p3, .int p4]) ++ List.replicate (8 - (lg_sl ([.ref h0, .int p0, .int p1, .int p2, .int p3, .int p4])).length) Slot.unset).toArray = ls at hl ⊢
  have hl : lv_has ls 8 [(0, .ref h0), (1, .int p0), (2, .int p1), (3, .int p2), (4, .int p3), (5, .int p4)] := hl
  refine lv_aload_n hx hb dX11_correct_0 rfl (lv_at hl 0 rfl) ?_
  refine va_get (D := (dC, dI)) (ci := 11) (v := .ref (a 1)) (C := RX11) (T := TX11) (N := 10) hx hb hts (fun _ hh => (List.mem_cons_of_mem _ (List.mem_append_right _ (List.mem_append_left _ hh)))) hown hK hP 0 rfl rfl 0 (by decide) (hts (.fieldLink RX11 10 "TypingPool" "book" "LTypingPool$Book;") (List.mem_cons_of_mem _ (List.mem_append_left _ (List.mem_of_getElem? (i := 0) rfl)))) (fun _ h9 => h9) rfl dX11_correct_1 ?_
  refine lv_iload_n hx hb dX11_correct_4 rfl (lv_at hl 1 rfl) ?_
  have hPc := hP.sub (ws' := [((a 1), .inr (1, [.ref (a 9), .int 0, .ref (a 10), .int 0, .ref (a 11), .int 0, .ref (a 12), .int 0]))]) [1] rfl
  have hDc := hD.sub (ws' := [((a 1), .inr (1, [.ref (a 9), .int 0, .ref (a 10), .int 0, .ref (a 11), .int 0, .ref (a 12), .int 0]))]) [1] (by decide) rfl
  have hKc := hK.sub (tys' := []) [] rfl
  have hFc := va_free (wc := [((a 1), .inr (1, [.ref (a 9), .int 0, .ref (a 10), .int 0, .ref (a 11), .int 0, .ref (a 12), .int 0]))]) hD hS hA [1] rfl
  refine va_calli (va_runV (As := [.int p0]) (rest := []) ⟨hx, hb, hml, hown, hts⟩ (c_hasPiece0 l dC dI ad av s.heap.size (a 1) (a 9) (a 10) (a 11) (a 12) p0 ) (cwV 1 hts (gi_4 (List.mem_cons_of_mem _ (List.mem_append_left _ (List.mem_of_getElem? (i := 1) rfl))) (List.mem_cons_of_mem _ (List.mem_append_left _ (List.mem_of_getElem? (i := 2) rfl))) (List.mem_cons_of_mem _ (List.mem_append_left _ (List.mem_of_getElem? (i := 3) rfl))) (List.mem_cons_of_mem _ (List.mem_append_left _ (List.mem_of_getElem? (i := 4) rfl))) (fun _ hh => (List.mem_cons_of_mem _ (List.mem_append_right _ (List.mem_append_right _ (List.mem_append_left _ hh))))) gd_c_hasPiece0) rfl rfl rfl (by decide +kernel) ⟨Nat.le_of_ble_eq_true rfl, Nat.le_of_ble_eq_true rfl⟩) ⟨pr_blind, va_recv hKc hPc (ci := 1) (q0 := 0) rfl rfl, pr_use hPc hKc hDc hFc hS hM⟩ rfl rfl hl.1 rfl (lv_room (Nat.le_of_ble_eq_true rfl)) dX11_correct_5 ⟨Nat.le_of_ble_eq_true rfl, Nat.le_of_ble_eq_true rfl⟩) hS (fun q _ h => hFc q h) hFc (fun r_41 u t H locs ht hvm hw hB hz1 hk1 hS => ?_)
  refine W.widen (k := 0) (n := 0) (Nat.le_of_ble_eq_true rfl) (Nat.le_of_ble_eq_true rfl) ?_
  subst hw
  obtain ⟨hre_42, hP1, hK1, hD1⟩ := hB
  refine lq_top (v := 0) hre_42 ?_
  rw [ht] at hP1
  have hK1 := va_K.moved hvm.symm hK1
  obtain ⟨hP, hD⟩ := va_join (wr := [(h0, .inr (11, [.ref (a 1), .ref (a 2), .ref (a 3), .ref (a 4), .ref (a 5), .ref (a 6), .ref (a 7), .int 0, .ref (a 8), .int 0]))]) (w1 := [((a 1), .inr (1, [.ref (a 9), .int 0, .ref (a 10), .int 0, .ref (a 11), .int 0, .ref (a 12), .int 0]))]) hP hD [1] [0] rfl rfl (by decide) (by decide) hk1 hFc hP1 hD1
  have hK := (hK.sub (tys' := []) [] rfl).app hK1
  have hP : va_P (dC, dI) vwCl [(h0, .inr (11, [.ref (a 1), .ref (a 2), .ref (a 3), .ref (a 4), .ref (a 5), .ref (a 6), .ref (a 7), .int 0, .ref (a 8), .int 0])), ((a 1), .inr (1, [.ref (a 9), .int 0, .ref (a 10), .int 0, .ref (a 11), .int 0, .ref (a 12), .int 0]))] H := hP
  have hD : va_D A [(h0, .inr (11, [.ref (a 1), .ref (a 2), .ref (a 3), .ref (a 4), .ref (a 5), .ref (a 6), .ref (a 7), .int 0, .ref (a 8), .int 0])), ((a 1), .inr (1, [.ref (a 9), .int 0, .ref (a 10), .int 0, .ref (a 11), .int 0, .ref (a 12), .int 0]))] := hD
  have hK : va_K (dC, dI) vwCl [] s := hK
  refine lv_if_eq (tgt := 67) hx hb dX11_correct_8 (by decide) (fun c_43 => ?_) (fun c_43 => absurd c_43 (fun z => z (by decide)))
  refine lv_iconst (v := 0) hx hb dX11_correct_67 (by decide) ?_
  refine lv_istore (lv' := [(6, .int 0), (0, .ref h0), (1, .int p0), (2, .int p1), (3, .int p2), (4, .int p3), (5, .int p4)]) hx hb dX11_correct_68 hl (by decide) rfl (fun ls hl => ?_)
  refine lv_iload hx hb dX11_correct_70 (lv_at hl 0 rfl) ?_
  refine lv_if_eq (tgt := 87) hx hb dX11_correct_72 (by decide) (fun c_44 => ?_) (fun c_44 => absurd c_44 (fun z => z (by decide)))
  refine lv_iconst (v := (-1)) hx hb dX11_correct_87 (by decide) ?_
  exact W.iret (v := (-1)) hx hb hr (fun t ht hW => ⟨⟨(-1), (-1), rfl, rfl, rfl⟩, hS.F ht⟩) hS.2.2 dX11_correct_88
def wo_c_slips : List Cond := [.fieldLink RX11 10 "TypingPool" "book" "LTypingPool$Book;", .methodLink RX11 201 yX1_hasPiece, .instanceMethod yX1_hasPiece, .selects RX1 yX1_hasPiece yX1_hasPiece, .initialized RX1]
def wm_c_slips : List Cond := .code yX11_slips cX11_slips 4 (some .boolean) :: (wo_c_slips ++ (wsX110 ++ (wm_c_hasPiece0 ++ ([] : List Cond))))
theorem gd_c_slips : ∀ w ∈ wm_c_slips, goodWord w = true := gd_c rfl (gd_a (by decide) (gd_a gd_wsX110 (gd_a gd_c_hasPiece0 gd_nil)))
set_option maxRecDepth 20000 in
theorem im_c_slips : ∀ w ∈ wm_c_slips, w ∈ lw_tbl := im_c (in_r [.code yX11_slips cX11_slips 4 (some .boolean)] [979] (by decide +kernel)) (in_app (in_r wo_c_slips [559, 859, 841, 842, 71] (by decide +kernel)) (in_app im_wsX110 (in_app im_c_hasPiece0 im_nil)))
set_option maxHeartbeats 4000000 in
set_option maxRecDepth 100000 in
theorem c_slips (l : Launch) (dC : Nat → ClassId) (dI : Nat → Nat → Nat) (ad av : Nat → Nat) (sz : Nat) (h0 : Nat) (a : Nat → Nat) (k : Nat → ClassId) (p0 : Int32) (p1 : Int32) (p2 : Int32) : Met l yX11_slips wm_c_slips ({ frames := 4, cells := 0, slots := 0, locals := 200 }) (pr_ ad av (dC, dI) sz [.ref h0, .int p0, .int p1, .int p2] [(h0, .inr (11, [.ref (a 1), .ref (a 2), .ref (a 3), .ref (a 4), .ref (a 5), .ref (a 6), .ref (a 7), .int 0, .ref (a 8), .int 0])), ((a 1), .inr (1, [.ref (a 9), .int 0, .ref (a 10), .int 0, .ref (a 11), .int 0, .ref (a 12), .int 0]))] []) (va_Qi (fun (r u : Int32) => u = r) (fun (r : Int32) (t : State) => (r = 0)) (va_A [(h0, .inr (11, [.ref (a 1), .ref (a 2), .ref (a 3), .ref (a 4), .ref (a 5), .ref (a 6), .ref (a 7), .int 0, .ref (a 8), .int 0])), ((a 1), .inr (1, [.ref (a 9), .int 0, .ref (a 10), .int 0, .ref (a 11), .int 0, .ref (a 12), .int 0]))] sz)) 0 0 (va_A [(h0, .inr (11, [.ref (a 1), .ref (a 2), .ref (a 3), .ref (a 4), .ref (a 5), .ref (a 6), .ref (a 7), .int 0, .ref (a 8), .int 0])), ((a 1), .inr (1, [.ref (a 9), .int 0, .ref (a 10), .int 0, .ref (a 11), .int 0, .ref (a 12), .int 0]))] sz) := by
  refine Met.ofW (cc := cX11_slips) (maxL := 4) (ret := (some .boolean)) (by decide) rfl ?_
  intro p e s m args below meth c s₁ B hml hv
  obtain ⟨rfl, hsz, hP, hK, hD0, hM⟩ := hv
  have hx := B.exec
  have hb := B.bytes
  have hr := B.returns
  have hts := atoms_spec (ws := wm_c_slips) B.pre
  have hown : s.vm.findClass RX11 = some m.cls := findClass_of_methodNamed B.named
  have hlocks := B.notSynchronized
  subst hsz
  have hD := hD0.self (sz := s.heap.size)
  generalize hAe : va_A [(h0, .inr (11, [.ref (a 1), .ref (a 2), .ref (a 3), .ref (a 4), .ref (a 5), .ref (a 6), .ref (a 7), .int 0, .ref (a 8), .int 0])), ((a 1), .inr (1, [.ref (a 9), .int 0, .ref (a 10), .int 0, .ref (a 11), .int 0, .ref (a 12), .int 0]))] s.heap.size = A at hD hM ⊢
  have hA : ∀ q : Nat, s.heap.size ≤ q → A q := fun q h => by rw [← hAe]; exact Or.inr h
  have hS : va_S A s.heap s.heap [] := va_S.rf
  have hP : va_P (dC, dI) vwCl [(h0, .inr (11, [.ref (a 1), .ref (a 2), .ref (a 3), .ref (a 4), .ref (a 5), .ref (a 6), .ref (a 7), .int 0, .ref (a 8), .int 0])), ((a 1), .inr (1, [.ref (a 9), .int 0, .ref (a 10), .int 0, .ref (a 11), .int 0, .ref (a 12), .int 0]))] s.heap := hP
  have hl := lv_entry ([.ref h0, .int p0, .int p1, .int p2]) (n := 4) (Nat.le_of_ble_eq_true rfl)
  rw [lg_entry_eq]
  generalize (lg_sl ([.ref h0, .int p0, .int p1, .int p2]) ++ List.replicate (4 - (lg_sl ([.ref h0, .int p0, .int p1, .int p2])).length) Slot.unset).toArray = ls at hl ⊢
  have hl : lv_has ls 4 [(0, .ref h0), (1, .int p0), (2, .int p1), (3, .int p2)] := hl
  refine lv_aload_n hx hb dX11_slips_0 rfl (lv_at hl 0 rfl) ?_
  refine va_get (D := (dC, dI)) (ci := 11) (v := .ref (a 1)) (C := RX11) (T := TX11) (N := 10) hx hb hts (fun _ hh => (List.mem_cons_of_mem _ (List.mem_append_right _ (List.mem_append_left _ hh)))) hown hK hP 0 rfl rfl 0 (by decide) (hts (.fieldLink RX11 10 "TypingPool" "book" "LTypingPool$Book;") (List.mem_cons_of_mem _ (List.mem_append_left _ (List.mem_of_getElem? (i := 0) rfl)))) (fun _ h9 => h9) rfl dX11_slips_1 ?_
  refine lv_iload_n hx hb dX11_slips_4 rfl (lv_at hl 1 rfl) ?_
  have hPc := hP.sub (ws' := [((a 1), .inr (1, [.ref (a 9), .int 0, .ref (a 10), .int 0, .ref (a 11), .int 0, .ref (a 12), .int 0]))]) [1] rfl
  have hDc := hD.sub (ws' := [((a 1), .inr (1, [.ref (a 9), .int 0, .ref (a 10), .int 0, .ref (a 11), .int 0, .ref (a 12), .int 0]))]) [1] (by decide) rfl
  have hKc := hK.sub (tys' := []) [] rfl
  have hFc := va_free (wc := [((a 1), .inr (1, [.ref (a 9), .int 0, .ref (a 10), .int 0, .ref (a 11), .int 0, .ref (a 12), .int 0]))]) hD hS hA [1] rfl
  refine va_calli (va_runV (As := [.int p0]) (rest := []) ⟨hx, hb, hml, hown, hts⟩ (c_hasPiece0 l dC dI ad av s.heap.size (a 1) (a 9) (a 10) (a 11) (a 12) p0 ) (cwV 1 hts (gi_4 (List.mem_cons_of_mem _ (List.mem_append_left _ (List.mem_of_getElem? (i := 1) rfl))) (List.mem_cons_of_mem _ (List.mem_append_left _ (List.mem_of_getElem? (i := 2) rfl))) (List.mem_cons_of_mem _ (List.mem_append_left _ (List.mem_of_getElem? (i := 3) rfl))) (List.mem_cons_of_mem _ (List.mem_append_left _ (List.mem_of_getElem? (i := 4) rfl))) (fun _ hh => (List.mem_cons_of_mem _ (List.mem_append_right _ (List.mem_append_right _ (List.mem_append_left _ hh))))) gd_c_hasPiece0) rfl rfl rfl (by decide +kernel) ⟨Nat.le_of_ble_eq_true rfl, Nat.le_of_ble_eq_true rfl⟩) ⟨pr_blind, va_recv hKc hPc (ci := 1) (q0 := 0) rfl rfl, pr_use hPc hKc hDc hFc hS hM⟩ rfl rfl hl.1 rfl (lv_room (Nat.le_of_ble_eq_true rfl)) dX11_slips_5 ⟨Nat.le_of_ble_eq_true rfl, Nat.le_of_ble_eq_true rfl⟩) hS (fun q _ h => hFc q h) hFc (fun r_45 u t H locs ht hvm hw hB hz1 hk1 hS => ?_)
  refine W.widen (k := 0) (n := 0) (Nat.le_of_ble_eq_true rfl) (Nat.le_of_ble_eq_true rfl) ?_
  subst hw
  obtain ⟨hre_46, hP1, hK1, hD1⟩ := hB
  refine lq_top (v := 0) hre_46 ?_
  rw [ht] at hP1
  have hK1 := va_K.moved hvm.symm hK1
  obtain ⟨hP, hD⟩ := va_join (wr := [(h0, .inr (11, [.ref (a 1), .ref (a 2), .ref (a 3), .ref (a 4), .ref (a 5), .ref (a 6), .ref (a 7), .int 0, .ref (a 8), .int 0]))]) (w1 := [((a 1), .inr (1, [.ref (a 9), .int 0, .ref (a 10), .int 0, .ref (a 11), .int 0, .ref (a 12), .int 0]))]) hP hD [1] [0] rfl rfl (by decide) (by decide) hk1 hFc hP1 hD1
  have hK := (hK.sub (tys' := []) [] rfl).app hK1
  have hP : va_P (dC, dI) vwCl [(h0, .inr (11, [.ref (a 1), .ref (a 2), .ref (a 3), .ref (a 4), .ref (a 5), .ref (a 6), .ref (a 7), .int 0, .ref (a 8), .int 0])), ((a 1), .inr (1, [.ref (a 9), .int 0, .ref (a 10), .int 0, .ref (a 11), .int 0, .ref (a 12), .int 0]))] H := hP
  have hD : va_D A [(h0, .inr (11, [.ref (a 1), .ref (a 2), .ref (a 3), .ref (a 4), .ref (a 5), .ref (a 6), .ref (a 7), .int 0, .ref (a 8), .int 0])), ((a 1), .inr (1, [.ref (a 9), .int 0, .ref (a 10), .int 0, .ref (a 11), .int 0, .ref (a 12), .int 0]))] := hD
  have hK : va_K (dC, dI) vwCl [] s := hK
  refine lv_if_eq (tgt := 30) hx hb dX11_slips_8 (by decide) (fun c_47 => ?_) (fun c_47 => absurd c_47 (fun z => z (by decide)))
  refine lv_iconst (v := 0) hx hb dX11_slips_30 (by decide) ?_
  exact W.zret (v := 0) hx hb hr (by decide) (fun t ht hW => ⟨⟨0, 0, rfl, rfl, rfl⟩, hS.F ht⟩) hS.2.2 dX11_slips_31
def wo_c_undo : List Cond := [.fieldLink RX11 40 "TypingPool" "ledger" "LTypingPool$Ledger;", .methodLink RX11 257 yX5_hasCorrection, .instanceMethod yX5_hasCorrection, .selects RX5 yX5_hasCorrection yX5_hasCorrection, .initialized RX5]
def wm_c_undo : List Cond := .code yX11_undo cX11_undo 3 (some .boolean) :: (wo_c_undo ++ (wsX110 ++ (wm_c_hasCorrection0 ++ ([] : List Cond))))
theorem gd_c_undo : ∀ w ∈ wm_c_undo, goodWord w = true := gd_c rfl (gd_a (by decide) (gd_a gd_wsX110 (gd_a gd_c_hasCorrection0 gd_nil)))
set_option maxRecDepth 20000 in
theorem im_c_undo : ∀ w ∈ wm_c_undo, w ∈ lw_tbl := im_c (in_r [.code yX11_undo cX11_undo 3 (some .boolean)] [935] (by decide +kernel)) (in_app (in_r wo_c_undo [563, 936, 937, 938, 84] (by decide +kernel)) (in_app im_wsX110 (in_app im_c_hasCorrection0 im_nil)))
set_option maxHeartbeats 4000000 in
set_option maxRecDepth 100000 in
theorem c_undo (l : Launch) (dC : Nat → ClassId) (dI : Nat → Nat → Nat) (ad av : Nat → Nat) (sz : Nat) (h0 : Nat) (a : Nat → Nat) (k : Nat → ClassId) (p0 : Int32) (p1 : Int32) : Met l yX11_undo wm_c_undo ({ frames := 4, cells := 0, slots := 0, locals := 200 }) (pr_ ad av (dC, dI) sz [.ref h0, .int p0, .int p1] [(h0, .inr (11, [.ref (a 1), .ref (a 2), .ref (a 3), .ref (a 4), .ref (a 5), .ref (a 6), .ref (a 7), .int 0, .ref (a 8), .int 0])), ((a 5), .inr (5, [.ref (a 1), .ref (a 2), .ref (a 3), .ref (a 40), .int 0, .int 99]))] []) (va_Qi (fun (r u : Int32) => u = r) (fun (r : Int32) (t : State) => (r = 0)) (va_A [(h0, .inr (11, [.ref (a 1), .ref (a 2), .ref (a 3), .ref (a 4), .ref (a 5), .ref (a 6), .ref (a 7), .int 0, .ref (a 8), .int 0])), ((a 5), .inr (5, [.ref (a 1), .ref (a 2), .ref (a 3), .ref (a 40), .int 0, .int 99]))] sz)) 0 0 (va_A [(h0, .inr (11, [.ref (a 1), .ref (a 2), .ref (a 3), .ref (a 4), .ref (a 5), .ref (a 6), .ref (a 7), .int 0, .ref (a 8), .int 0])), ((a 5), .inr (5, [.ref (a 1), .ref (a 2), .ref (a 3), .ref (a 40), .int 0, .int 99]))] sz) := by
  refine Met.ofW (cc := cX11_undo) (maxL := 3) (ret := (some .boolean)) (by decide) rfl ?_
  intro p e s m args below meth c s₁ B hml hv
  obtain ⟨rfl, hsz, hP, hK, hD0, hM⟩ := hv
  have hx := B.exec
  have hb := B.bytes
  have hr := B.returns
  have hts := atoms_spec (ws := wm_c_undo) B.pre
  have hown : s.vm.findClass RX11 = some m.cls := findClass_of_methodNamed B.named
  have hlocks := B.notSynchronized
  subst hsz
  have hD := hD0.self (sz := s.heap.size)
  generalize hAe : va_A [(h0, .inr (11, [.ref (a 1), .ref (a 2), .ref (a 3), .ref (a 4), .ref (a 5), .ref (a 6), .ref (a 7), .int 0, .ref (a 8), .int 0])), ((a 5), .inr (5, [.ref (a 1), .ref (a 2), .ref (a 3), .ref (a 40), .int 0, .int 99]))] s.heap.size = A at hD hM ⊢
  have hA : ∀ q : Nat, s.heap.size ≤ q → A q := fun q h => by rw [← hAe]; exact Or.inr h
  have hS : va_S A s.heap s.heap [] := va_S.rf
  have hP : va_P (dC, dI) vwCl [(h0, .inr (11, [.ref (a 1), .ref (a 2), .ref (a 3), .ref (a 4), .ref (a 5), .ref (a 6), .ref (a 7), .int 0, .ref (a 8), .int 0])), ((a 5), .inr (5, [.ref (a 1), .ref (a 2), .ref (a 3), .ref (a 40), .int 0, .int 99]))] s.heap := hP
  have hl := lv_entry ([.ref h0, .int p0, .int p1]) (n := 3) (Nat.le_of_ble_eq_true rfl)
  rw [lg_entry_eq]
  generalize (lg_sl ([.ref h0, .int p0, .int p1]) ++ List.replicate (3 - (lg_sl ([.ref h0, .int p0, .int p1])).length) Slot.unset).toArray = ls at hl ⊢
  have hl : lv_has ls 3 [(0, .ref h0), (1, .int p0), (2, .int p1)] := hl
  refine lv_aload_n hx hb dX11_undo_0 rfl (lv_at hl 0 rfl) ?_
  refine va_get (D := (dC, dI)) (ci := 11) (v := .ref (a 5)) (C := RX11) (T := TX11) (N := 10) hx hb hts (fun _ hh => (List.mem_cons_of_mem _ (List.mem_append_right _ (List.mem_append_left _ hh)))) hown hK hP 0 rfl rfl 4 (by decide) (hts (.fieldLink RX11 40 "TypingPool" "ledger" "LTypingPool$Ledger;") (List.mem_cons_of_mem _ (List.mem_append_left _ (List.mem_of_getElem? (i := 0) rfl)))) (fun _ h9 => h9) rfl dX11_undo_1 ?_
  refine lv_iload_n hx hb dX11_undo_4 rfl (lv_at hl 1 rfl) ?_
  have hPc := hP.sub (ws' := [((a 5), .inr (5, [.ref (a 1), .ref (a 2), .ref (a 3), .ref (a 40), .int 0, .int 99]))]) [1] rfl
  have hDc := hD.sub (ws' := [((a 5), .inr (5, [.ref (a 1), .ref (a 2), .ref (a 3), .ref (a 40), .int 0, .int 99]))]) [1] (by decide) rfl
  have hKc := hK.sub (tys' := []) [] rfl
  have hFc := va_free (wc := [((a 5), .inr (5, [.ref (a 1), .ref (a 2), .ref (a 3), .ref (a 40), .int 0, .int 99]))]) hD hS hA [1] rfl
  refine va_calli (va_runV (As := [.int p0]) (rest := []) ⟨hx, hb, hml, hown, hts⟩ (c_hasCorrection0 l dC dI ad av s.heap.size (a 5) (a 1) (a 2) (a 3) (a 40) p0 ) (cwV 1 hts (gi_4 (List.mem_cons_of_mem _ (List.mem_append_left _ (List.mem_of_getElem? (i := 1) rfl))) (List.mem_cons_of_mem _ (List.mem_append_left _ (List.mem_of_getElem? (i := 2) rfl))) (List.mem_cons_of_mem _ (List.mem_append_left _ (List.mem_of_getElem? (i := 3) rfl))) (List.mem_cons_of_mem _ (List.mem_append_left _ (List.mem_of_getElem? (i := 4) rfl))) (fun _ hh => (List.mem_cons_of_mem _ (List.mem_append_right _ (List.mem_append_right _ (List.mem_append_left _ hh))))) gd_c_hasCorrection0) rfl rfl rfl (by decide +kernel) ⟨Nat.le_of_ble_eq_true rfl, Nat.le_of_ble_eq_true rfl⟩) ⟨pr_blind, va_recv hKc hPc (ci := 5) (q0 := 0) rfl rfl, pr_use hPc hKc hDc hFc hS hM⟩ rfl rfl hl.1 rfl (lv_room (Nat.le_of_ble_eq_true rfl)) dX11_undo_5 ⟨Nat.le_of_ble_eq_true rfl, Nat.le_of_ble_eq_true rfl⟩) hS (fun q _ h => hFc q h) hFc (fun r_48 u t H locs ht hvm hw hB hz1 hk1 hS => ?_)
  refine W.widen (k := 0) (n := 0) (Nat.le_of_ble_eq_true rfl) (Nat.le_of_ble_eq_true rfl) ?_
  subst hw
  obtain ⟨hre_49, hP1, hK1, hD1⟩ := hB
  refine lq_top (v := 0) hre_49 ?_
  rw [ht] at hP1
  have hK1 := va_K.moved hvm.symm hK1
  obtain ⟨hP, hD⟩ := va_join (wr := [(h0, .inr (11, [.ref (a 1), .ref (a 2), .ref (a 3), .ref (a 4), .ref (a 5), .ref (a 6), .ref (a 7), .int 0, .ref (a 8), .int 0]))]) (w1 := [((a 5), .inr (5, [.ref (a 1), .ref (a 2), .ref (a 3), .ref (a 40), .int 0, .int 99]))]) hP hD [1] [0] rfl rfl (by decide) (by decide) hk1 hFc hP1 hD1
  have hK := (hK.sub (tys' := []) [] rfl).app hK1
  have hP : va_P (dC, dI) vwCl [(h0, .inr (11, [.ref (a 1), .ref (a 2), .ref (a 3), .ref (a 4), .ref (a 5), .ref (a 6), .ref (a 7), .int 0, .ref (a 8), .int 0])), ((a 5), .inr (5, [.ref (a 1), .ref (a 2), .ref (a 3), .ref (a 40), .int 0, .int 99]))] H := hP
  have hD : va_D A [(h0, .inr (11, [.ref (a 1), .ref (a 2), .ref (a 3), .ref (a 4), .ref (a 5), .ref (a 6), .ref (a 7), .int 0, .ref (a 8), .int 0])), ((a 5), .inr (5, [.ref (a 1), .ref (a 2), .ref (a 3), .ref (a 40), .int 0, .int 99]))] := hD
  have hK : va_K (dC, dI) vwCl [] s := hK
  refine lv_if_eq (tgt := 21) hx hb dX11_undo_8 (by decide) (fun c_50 => ?_) (fun c_50 => absurd c_50 (fun z => z (by decide)))
  refine lv_iconst (v := 0) hx hb dX11_undo_21 (by decide) ?_
  exact W.zret (v := 0) hx hb hr (by decide) (fun t ht hW => ⟨⟨0, 0, rfl, rfl, rfl⟩, hS.F ht⟩) hS.2.2 dX11_undo_22
def wo_c_fault : List Cond := [.fieldLink RX11 40 "TypingPool" "ledger" "LTypingPool$Ledger;", .methodLink RX11 257 yX5_hasCorrection, .instanceMethod yX5_hasCorrection, .selects RX5 yX5_hasCorrection yX5_hasCorrection, .initialized RX5]
def wm_c_fault : List Cond := .code yX11_fault cX11_fault 2 (some .int) :: (wo_c_fault ++ (wsX110 ++ (wm_c_hasCorrection0 ++ ([] : List Cond))))
theorem gd_c_fault : ∀ w ∈ wm_c_fault, goodWord w = true := gd_c rfl (gd_a (by decide) (gd_a gd_wsX110 (gd_a gd_c_hasCorrection0 gd_nil)))
set_option maxRecDepth 20000 in
theorem im_c_fault : ∀ w ∈ wm_c_fault, w ∈ lw_tbl := im_c (in_r [.code yX11_fault cX11_fault 2 (some .int)] [947] (by decide +kernel)) (in_app (in_r wo_c_fault [563, 936, 937, 938, 84] (by decide +kernel)) (in_app im_wsX110 (in_app im_c_hasCorrection0 im_nil)))
set_option maxHeartbeats 4000000 in
set_option maxRecDepth 100000 in
theorem c_fault (l : Launch) (dC : Nat → ClassId) (dI : Nat → Nat → Nat) (ad av : Nat → Nat) (sz : Nat) (h0 : Nat) (a : Nat → Nat) (k : Nat → ClassId) (p0 : Int32) : Met l yX11_fault wm_c_fault ({ frames := 4, cells := 0, slots := 0, locals := 200 }) (pr_ ad av (dC, dI) sz [.ref h0, .int p0] [(h0, .inr (11, [.ref (a 1), .ref (a 2), .ref (a 3), .ref (a 4), .ref (a 5), .ref (a 6), .ref (a 7), .int 0, .ref (a 8), .int 0])), ((a 5), .inr (5, [.ref (a 1), .ref (a 2), .ref (a 3), .ref (a 40), .int 0, .int 99]))] []) (va_Qi (fun (r u : Int32) => u = r) (fun (r : Int32) (t : State) => (r = (-1))) (va_A [(h0, .inr (11, [.ref (a 1), .ref (a 2), .ref (a 3), .ref (a 4), .ref (a 5), .ref (a 6), .ref (a 7), .int 0, .ref (a 8), .int 0])), ((a 5), .inr (5, [.ref (a 1), .ref (a 2), .ref (a 3), .ref (a 40), .int 0, .int 99]))] sz)) 0 0 (va_A [(h0, .inr (11, [.ref (a 1), .ref (a 2), .ref (a 3), .ref (a 4), .ref (a 5), .ref (a 6), .ref (a 7), .int 0, .ref (a 8), .int 0])), ((a 5), .inr (5, [.ref (a 1), .ref (a 2), .ref (a 3), .ref (a 40), .int 0, .int 99]))] sz) := by
  refine Met.ofW (cc := cX11_fault) (maxL := 2) (ret := (some .int)) (by decide) rfl ?_
  intro p e s m args below meth c s₁ B hml hv
  obtain ⟨rfl, hsz, hP, hK, hD0, hM⟩ := hv
  have hx := B.exec
  have hb := B.bytes
  have hr := B.returns
  have hts := atoms_spec (ws := wm_c_fault) B.pre
  have hown : s.vm.findClass RX11 = some m.cls := findClass_of_methodNamed B.named
  have hlocks := B.notSynchronized
  subst hsz
  have hD := hD0.self (sz := s.heap.size)
  generalize hAe : va_A [(h0, .inr (11, [.ref (a 1), .ref (a 2), .ref (a 3), .ref (a 4), .ref (a 5), .ref (a 6), .ref (a 7), .int 0, .ref (a 8), .int 0])), ((a 5), .inr (5, [.ref (a 1), .ref (a 2), .ref (a 3), .ref (a 40), .int 0, .int 99]))] s.heap.size = A at hD hM ⊢
  have hA : ∀ q : Nat, s.heap.size ≤ q → A q := fun q h => by rw [← hAe]; exact Or.inr h
  have hS : va_S A s.heap s.heap [] := va_S.rf
  have hP : va_P (dC, dI) vwCl [(h0, .inr (11, [.ref (a 1), .ref (a 2), .ref (a 3), .ref (a 4), .ref (a 5), .ref (a 6), .ref (a 7), .int 0, .ref (a 8), .int 0])), ((a 5), .inr (5, [.ref (a 1), .ref (a 2), .ref (a 3), .ref (a 40), .int 0, .int 99]))] s.heap := hP
  have hl := lv_entry ([.ref h0, .int p0]) (n := 2) (Nat.le_of_ble_eq_true rfl)
  rw [lg_entry_eq]
  generalize (lg_sl ([.ref h0, .int p0]) ++ List.replicate (2 - (lg_sl ([.ref h0, .int p0])).length) Slot.unset).toArray = ls at hl ⊢
  have hl : lv_has ls 2 [(0, .ref h0), (1, .int p0)] := hl
  refine lv_aload_n hx hb dX11_fault_0 rfl (lv_at hl 0 rfl) ?_
  refine va_get (D := (dC, dI)) (ci := 11) (v := .ref (a 5)) (C := RX11) (T := TX11) (N := 10) hx hb hts (fun _ hh => (List.mem_cons_of_mem _ (List.mem_append_right _ (List.mem_append_left _ hh)))) hown hK hP 0 rfl rfl 4 (by decide) (hts (.fieldLink RX11 40 "TypingPool" "ledger" "LTypingPool$Ledger;") (List.mem_cons_of_mem _ (List.mem_append_left _ (List.mem_of_getElem? (i := 0) rfl)))) (fun _ h9 => h9) rfl dX11_fault_1 ?_
  refine lv_iload_n hx hb dX11_fault_4 rfl (lv_at hl 1 rfl) ?_
  have hPc := hP.sub (ws' := [((a 5), .inr (5, [.ref (a 1), .ref (a 2), .ref (a 3), .ref (a 40), .int 0, .int 99]))]) [1] rfl
  have hDc := hD.sub (ws' := [((a 5), .inr (5, [.ref (a 1), .ref (a 2), .ref (a 3), .ref (a 40), .int 0, .int 99]))]) [1] (by decide) rfl
  have hKc := hK.sub (tys' := []) [] rfl
  have hFc := va_free (wc := [((a 5), .inr (5, [.ref (a 1), .ref (a 2), .ref (a 3), .ref (a 40), .int 0, .int 99]))]) hD hS hA [1] rfl
  refine va_calli (va_runV (As := [.int p0]) (rest := []) ⟨hx, hb, hml, hown, hts⟩ (c_hasCorrection0 l dC dI ad av s.heap.size (a 5) (a 1) (a 2) (a 3) (a 40) p0 ) (cwV 1 hts (gi_4 (List.mem_cons_of_mem _ (List.mem_append_left _ (List.mem_of_getElem? (i := 1) rfl))) (List.mem_cons_of_mem _ (List.mem_append_left _ (List.mem_of_getElem? (i := 2) rfl))) (List.mem_cons_of_mem _ (List.mem_append_left _ (List.mem_of_getElem? (i := 3) rfl))) (List.mem_cons_of_mem _ (List.mem_append_left _ (List.mem_of_getElem? (i := 4) rfl))) (fun _ hh => (List.mem_cons_of_mem _ (List.mem_append_right _ (List.mem_append_right _ (List.mem_append_left _ hh))))) gd_c_hasCorrection0) rfl rfl rfl (by decide +kernel) ⟨Nat.le_of_ble_eq_true rfl, Nat.le_of_ble_eq_true rfl⟩) ⟨pr_blind, va_recv hKc hPc (ci := 5) (q0 := 0) rfl rfl, pr_use hPc hKc hDc hFc hS hM⟩ rfl rfl hl.1 rfl (lv_room (Nat.le_of_ble_eq_true rfl)) dX11_fault_5 ⟨Nat.le_of_ble_eq_true rfl, Nat.le_of_ble_eq_true rfl⟩) hS (fun q _ h => hFc q h) hFc (fun r_51 u t H locs ht hvm hw hB hz1 hk1 hS => ?_)
  refine W.widen (k := 0) (n := 0) (Nat.le_of_ble_eq_true rfl) (Nat.le_of_ble_eq_true rfl) ?_
  subst hw
  obtain ⟨hre_52, hP1, hK1, hD1⟩ := hB
  refine lq_top (v := 0) hre_52 ?_
  rw [ht] at hP1
  have hK1 := va_K.moved hvm.symm hK1
  obtain ⟨hP, hD⟩ := va_join (wr := [(h0, .inr (11, [.ref (a 1), .ref (a 2), .ref (a 3), .ref (a 4), .ref (a 5), .ref (a 6), .ref (a 7), .int 0, .ref (a 8), .int 0]))]) (w1 := [((a 5), .inr (5, [.ref (a 1), .ref (a 2), .ref (a 3), .ref (a 40), .int 0, .int 99]))]) hP hD [1] [0] rfl rfl (by decide) (by decide) hk1 hFc hP1 hD1
  have hK := (hK.sub (tys' := []) [] rfl).app hK1
  have hP : va_P (dC, dI) vwCl [(h0, .inr (11, [.ref (a 1), .ref (a 2), .ref (a 3), .ref (a 4), .ref (a 5), .ref (a 6), .ref (a 7), .int 0, .ref (a 8), .int 0])), ((a 5), .inr (5, [.ref (a 1), .ref (a 2), .ref (a 3), .ref (a 40), .int 0, .int 99]))] H := hP
  have hD : va_D A [(h0, .inr (11, [.ref (a 1), .ref (a 2), .ref (a 3), .ref (a 4), .ref (a 5), .ref (a 6), .ref (a 7), .int 0, .ref (a 8), .int 0])), ((a 5), .inr (5, [.ref (a 1), .ref (a 2), .ref (a 3), .ref (a 40), .int 0, .int 99]))] := hD
  have hK : va_K (dC, dI) vwCl [] s := hK
  refine lv_if_eq (tgt := 22) hx hb dX11_fault_8 (by decide) (fun c_53 => ?_) (fun c_53 => absurd c_53 (fun z => z (by decide)))
  refine lv_iconst (v := (-1)) hx hb dX11_fault_22 (by decide) ?_
  exact W.iret (v := (-1)) hx hb hr (fun t ht hW => ⟨⟨(-1), (-1), rfl, rfl, rfl⟩, hS.F ht⟩) hS.2.2 dX11_fault_23
def wo_c_as : List Cond := [.methodLink RX11 68 yX11_within, .static yX11_within, .initialized RX11, .fieldLink RX11 40 "TypingPool" "ledger" "LTypingPool$Ledger;", .fieldLink RX11 245 "TypingPool$Ledger" "as" "I"]
def wm_c_as : List Cond := .code yX11_as cX11_as 3 (some .int) :: (wo_c_as ++ (wm_c_within ++ (wsX110 ++ (wsX50 ++ ([] : List Cond)))))
theorem gd_c_as : ∀ w ∈ wm_c_as, goodWord w = true := gd_c rfl (gd_a (by decide) (gd_a gd_c_within (gd_a gd_wsX110 (gd_a gd_wsX50 gd_nil))))
set_option maxRecDepth 20000 in
theorem im_c_as : ∀ w ∈ wm_c_as, w ∈ lw_tbl := im_c (in_r [.code yX11_as cX11_as 3 (some .int)] [943] (by decide +kernel)) (in_app (in_r wo_c_as [594, 595, 70, 563, 495] (by decide +kernel)) (in_app im_c_within (in_app im_wsX110 (in_app im_wsX50 im_nil))))
set_option maxHeartbeats 4000000 in
set_option maxRecDepth 100000 in
theorem c_as (l : Launch) (dC : Nat → ClassId) (dI : Nat → Nat → Nat) (ad av : Nat → Nat) (sz : Nat) (h0 : Nat) (a : Nat → Nat) (k : Nat → ClassId) (p0 : Int32) : Met l yX11_as wm_c_as ({ frames := 4, cells := 0, slots := 0, locals := 200 }) (pr_ ad av (dC, dI) sz [.ref h0, .int p0] [(h0, .inr (11, [.ref (a 1), .ref (a 2), .ref (a 3), .ref (a 4), .ref (a 5), .ref (a 6), .ref (a 7), .int 0, .ref (a 8), .int 0])), ((a 5), .inr (5, [.ref (a 1), .ref (a 2), .ref (a 3), .ref (a 40), .int 0, .int 99]))] []) (va_Qi (fun (r u : Int32) => u = r) (fun (r : Int32) (t : State) => (r = sp_as p0)) (va_A [(h0, .inr (11, [.ref (a 1), .ref (a 2), .ref (a 3), .ref (a 4), .ref (a 5), .ref (a 6), .ref (a 7), .int 0, .ref (a 8), .int 0])), ((a 5), .inr (5, [.ref (a 1), .ref (a 2), .ref (a 3), .ref (a 40), .int 0, .int 99]))] sz)) 0 0 (va_A [(h0, .inr (11, [.ref (a 1), .ref (a 2), .ref (a 3), .ref (a 4), .ref (a 5), .ref (a 6), .ref (a 7), .int 0, .ref (a 8), .int 0])), ((a 5), .inr (5, [.ref (a 1), .ref (a 2), .ref (a 3), .ref (a 40), .int 0, .int 99]))] sz) := by
  refine Met.ofW (cc := cX11_as) (maxL := 3) (ret := (some .int)) (by decide) rfl ?_
  intro p e s m args below meth c s₁ B hml hv
  obtain ⟨rfl, hsz, hP, hK, hD0, hM⟩ := hv
  have hx := B.exec
  have hb := B.bytes
  have hr := B.returns
  have hts := atoms_spec (ws := wm_c_as) B.pre
  have hown : s.vm.findClass RX11 = some m.cls := findClass_of_methodNamed B.named
  have hlocks := B.notSynchronized
  subst hsz
  have hD := hD0.self (sz := s.heap.size)
  generalize hAe : va_A [(h0, .inr (11, [.ref (a 1), .ref (a 2), .ref (a 3), .ref (a 4), .ref (a 5), .ref (a 6), .ref (a 7), .int 0, .ref (a 8), .int 0])), ((a 5), .inr (5, [.ref (a 1), .ref (a 2), .ref (a 3), .ref (a 40), .int 0, .int 99]))] s.heap.size = A at hD hM ⊢
  have hA : ∀ q : Nat, s.heap.size ≤ q → A q := fun q h => by rw [← hAe]; exact Or.inr h
  have hS : va_S A s.heap s.heap [] := va_S.rf
  have hP : va_P (dC, dI) vwCl [(h0, .inr (11, [.ref (a 1), .ref (a 2), .ref (a 3), .ref (a 4), .ref (a 5), .ref (a 6), .ref (a 7), .int 0, .ref (a 8), .int 0])), ((a 5), .inr (5, [.ref (a 1), .ref (a 2), .ref (a 3), .ref (a 40), .int 0, .int 99]))] s.heap := hP
  have hl := lv_entry ([.ref h0, .int p0]) (n := 3) (Nat.le_of_ble_eq_true rfl)
  rw [lg_entry_eq]
  generalize (lg_sl ([.ref h0, .int p0]) ++ List.replicate (3 - (lg_sl ([.ref h0, .int p0])).length) Slot.unset).toArray = ls at hl ⊢
  have hl : lv_has ls 3 [(0, .ref h0), (1, .int p0)] := hl
  refine lv_iload_n hx hb dX11_as_0 rfl (lv_at hl 1 rfl) ?_
  refine lv_iconst (v := 0) hx hb dX11_as_1 (by decide) ?_
  refine lv_bipush (v := 99) hx hb dX11_as_2 (by decide) ?_
  have hPc := hP.sub (ws' := []) [] rfl
  have hDc := hD.sub (ws' := []) [] (by decide) rfl
  have hKc := hK.sub (tys' := []) [] rfl
  have hFc := va_free (wc := []) hD hS hA [] rfl
  refine va_calli (va_runS (As := [.int p0, .int 0, .int 99]) (rest := []) ⟨hx, hb, hml, hown, hts⟩ (c_within l dC dI ad av s.heap.size p0 0 99 ) (va_cwS 3 hts (gi_3 (List.mem_cons_of_mem _ (List.mem_append_left _ (List.mem_of_getElem? (i := 0) rfl))) (List.mem_cons_of_mem _ (List.mem_append_left _ (List.mem_of_getElem? (i := 1) rfl))) (List.mem_cons_of_mem _ (List.mem_append_left _ (List.mem_of_getElem? (i := 2) rfl))) (fun _ hh => (List.mem_cons_of_mem _ (List.mem_append_right _ (List.mem_append_left _ hh)))) gd_c_within) rfl rfl rfl (by decide +kernel) ⟨Nat.le_of_ble_eq_true rfl, Nat.le_of_ble_eq_true rfl⟩) ⟨pr_blind, pr_use hPc hKc hDc hFc hS hM⟩ rfl rfl hl.1 rfl (lv_room (Nat.le_of_ble_eq_true rfl)) dX11_as_4 ⟨Nat.le_of_ble_eq_true rfl, Nat.le_of_ble_eq_true rfl⟩) hS (fun q _ h => hFc q h) hFc (fun r_54 u t H locs ht hvm hw hB hz1 hk1 hS => ?_)
  refine W.widen (k := 0) (n := 0) (Nat.le_of_ble_eq_true rfl) (Nat.le_of_ble_eq_true rfl) ?_
  subst hw
  rcases hB with ⟨hre_55, hf_56, hf_57, hP1, hK1, hD1⟩ | ⟨hre_58, hf_59, hP1, hK1, hD1⟩
  · refine lq_top (v := 1) hre_55 ?_
    rw [ht] at hP1
    have hK1 := va_K.moved hvm.symm hK1
    obtain ⟨hP, hD⟩ := va_join (wr := [(h0, .inr (11, [.ref (a 1), .ref (a 2), .ref (a 3), .ref (a 4), .ref (a 5), .ref (a 6), .ref (a 7), .int 0, .ref (a 8), .int 0])), ((a 5), .inr (5, [.ref (a 1), .ref (a 2), .ref (a 3), .ref (a 40), .int 0, .int 99]))]) (w1 := []) hP hD [] [0, 1] rfl rfl (by decide) (by decide) hk1 hFc hP1 hD1
    have hK := (hK.sub (tys' := []) [] rfl).app hK1
    have hP : va_P (dC, dI) vwCl [(h0, .inr (11, [.ref (a 1), .ref (a 2), .ref (a 3), .ref (a 4), .ref (a 5), .ref (a 6), .ref (a 7), .int 0, .ref (a 8), .int 0])), ((a 5), .inr (5, [.ref (a 1), .ref (a 2), .ref (a 3), .ref (a 40), .int 0, .int 99]))] H := hP
    have hD : va_D A [(h0, .inr (11, [.ref (a 1), .ref (a 2), .ref (a 3), .ref (a 4), .ref (a 5), .ref (a 6), .ref (a 7), .int 0, .ref (a 8), .int 0])), ((a 5), .inr (5, [.ref (a 1), .ref (a 2), .ref (a 3), .ref (a 40), .int 0, .int 99]))] := hD
    have hK : va_K (dC, dI) vwCl [] s := hK
    refine lv_if_ne (tgt := 12) hx hb dX11_as_7 (by decide) (fun c_60 => ?_) (fun c_60 => absurd c_60 (by decide))
    refine lv_aload_n hx hb dX11_as_12 rfl (lv_at hl 0 rfl) ?_
    refine va_get (D := (dC, dI)) (ci := 11) (v := .ref (a 5)) (C := RX11) (T := TX11) (N := 10) hx hb hts (fun _ hh => (List.mem_cons_of_mem _ (List.mem_append_right _ (List.mem_append_right _ (List.mem_append_left _ hh))))) hown hK hP 0 rfl rfl 4 (by decide) (hts (.fieldLink RX11 40 "TypingPool" "ledger" "LTypingPool$Ledger;") (List.mem_cons_of_mem _ (List.mem_append_left _ (List.mem_of_getElem? (i := 3) rfl)))) (fun _ h9 => h9) rfl dX11_as_13 ?_
    refine va_get (D := (dC, dI)) (ci := 5) (v := .int 99) (C := RX5) (T := TX5) (N := 6) hx hb hts (fun _ hh => (List.mem_cons_of_mem _ (List.mem_append_right _ (List.mem_append_right _ (List.mem_append_right _ (List.mem_append_left _ hh)))))) hown hK hP 1 rfl rfl 5 (by decide) (hts (.fieldLink RX11 245 "TypingPool$Ledger" "as" "I") (List.mem_cons_of_mem _ (List.mem_append_left _ (List.mem_of_getElem? (i := 4) rfl)))) (fun _ h9 => h9) rfl dX11_as_16 ?_
    refine lv_istore_n (lv' := [(2, .int 99), (0, .ref h0), (1, .int p0)]) hx hb dX11_as_19 rfl hl (by decide) rfl (fun ls hl => ?_)
    refine lv_aload_n hx hb dX11_as_20 rfl (lv_at hl 1 rfl) ?_
    refine va_get (D := (dC, dI)) (ci := 11) (v := .ref (a 5)) (C := RX11) (T := TX11) (N := 10) hx hb hts (fun _ hh => (List.mem_cons_of_mem _ (List.mem_append_right _ (List.mem_append_right _ (List.mem_append_left _ hh))))) hown hK hP 0 rfl rfl 4 (by decide) (hts (.fieldLink RX11 40 "TypingPool" "ledger" "LTypingPool$Ledger;") (List.mem_cons_of_mem _ (List.mem_append_left _ (List.mem_of_getElem? (i := 3) rfl)))) (fun _ h9 => h9) rfl dX11_as_21 ?_
    refine lv_iload_n hx hb dX11_as_24 rfl (lv_at hl 2 rfl) ?_
    refine va_put (D := (dC, dI)) (ci := 5) (v := .int p0) (ty := .int) (C := RX5) (T := TX5) (N := 6) hx hb hts (fun _ hh => (List.mem_cons_of_mem _ (List.mem_append_right _ (List.mem_append_right _ (List.mem_append_right _ (List.mem_append_left _ hh)))))) tyX5 tyX5_ok nmX5 hown hK hP hD hS 1 rfl rfl 5 (by decide) (hts (.fieldLink RX11 245 "TypingPool$Ledger" "as" "I") (List.mem_cons_of_mem _ (List.mem_append_left _ (List.mem_of_getElem? (i := 4) rfl)))) (fun _ h9 => h9) rfl (tyX5_ok 5 (by decide)) rfl rfl (Nat.le_of_ble_eq_true rfl) dX11_as_25 (fun H locs hP hD hS => ?_)
    have hP : va_P (dC, dI) vwCl [(h0, .inr (11, [.ref (a 1), .ref (a 2), .ref (a 3), .ref (a 4), .ref (a 5), .ref (a 6), .ref (a 7), .int 0, .ref (a 8), .int 0])), ((a 5), .inr (5, [.ref (a 1), .ref (a 2), .ref (a 3), .ref (a 40), .int 0, .int p0]))] H := hP
    have hD : va_D A [(h0, .inr (11, [.ref (a 1), .ref (a 2), .ref (a 3), .ref (a 4), .ref (a 5), .ref (a 6), .ref (a 7), .int 0, .ref (a 8), .int 0])), ((a 5), .inr (5, [.ref (a 1), .ref (a 2), .ref (a 3), .ref (a 40), .int 0, .int p0]))] := hD
    refine lv_iload_n hx hb dX11_as_28 rfl (lv_at hl 0 rfl) ?_
    exact W.iret (v := 99) hx hb hr (fun t ht hW => ⟨⟨99, 99, rfl, rfl, (if_pos ⟨hf_56, hf_57⟩).symm⟩, hS.F ht⟩) hS.2.2 dX11_as_29
  · refine lq_top (v := 0) hre_58 ?_
    rw [ht] at hP1
    have hK1 := va_K.moved hvm.symm hK1
    obtain ⟨hP, hD⟩ := va_join (wr := [(h0, .inr (11, [.ref (a 1), .ref (a 2), .ref (a 3), .ref (a 4), .ref (a 5), .ref (a 6), .ref (a 7), .int 0, .ref (a 8), .int 0])), ((a 5), .inr (5, [.ref (a 1), .ref (a 2), .ref (a 3), .ref (a 40), .int 0, .int 99]))]) (w1 := []) hP hD [] [0, 1] rfl rfl (by decide) (by decide) hk1 hFc hP1 hD1
    have hK := (hK.sub (tys' := []) [] rfl).app hK1
    have hP : va_P (dC, dI) vwCl [(h0, .inr (11, [.ref (a 1), .ref (a 2), .ref (a 3), .ref (a 4), .ref (a 5), .ref (a 6), .ref (a 7), .int 0, .ref (a 8), .int 0])), ((a 5), .inr (5, [.ref (a 1), .ref (a 2), .ref (a 3), .ref (a 40), .int 0, .int 99]))] H := hP
    have hD : va_D A [(h0, .inr (11, [.ref (a 1), .ref (a 2), .ref (a 3), .ref (a 4), .ref (a 5), .ref (a 6), .ref (a 7), .int 0, .ref (a 8), .int 0])), ((a 5), .inr (5, [.ref (a 1), .ref (a 2), .ref (a 3), .ref (a 40), .int 0, .int 99]))] := hD
    have hK : va_K (dC, dI) vwCl [] s := hK
    refine lv_if_ne (tgt := 12) hx hb dX11_as_7 (by decide) (fun c_61 => absurd c_61 (fun z => z (by decide))) (fun c_61 => ?_)
    refine lv_iconst (v := (-1)) hx hb dX11_as_10 (by decide) ?_
    exact W.iret (v := (-1)) hx hb hr (fun t ht hW => ⟨⟨(-1), (-1), rfl, rfl, (if_neg (fun z => hf_59 z)).symm⟩, hS.F ht⟩) hS.2.2 dX11_as_11
def wo_c_sign : List Cond := [.fieldLink RX11 57 "TypingPool" "textLength" "I", .fieldLink RX11 53 "TypingPool" "text" "[C"]
def wm_c_sign : List Cond := .code yX11_sign cX11_sign 3 (some .int) :: (wo_c_sign ++ (wsX110 ++ ([] : List Cond)))
theorem gd_c_sign : ∀ w ∈ wm_c_sign, goodWord w = true := gd_c rfl (gd_a (by decide) (gd_a gd_wsX110 gd_nil))
set_option maxRecDepth 20000 in
theorem im_c_sign : ∀ w ∈ wm_c_sign, w ∈ lw_tbl := im_c (in_r [.code yX11_sign cX11_sign 3 (some .int)] [730] (by decide +kernel)) (in_app (in_r wo_c_sign [566, 565] (by decide +kernel)) (in_app im_wsX110 im_nil))
set_option maxHeartbeats 4000000 in
set_option maxRecDepth 100000 in
theorem c_sign (l : Launch) (dC : Nat → ClassId) (dI : Nat → Nat → Nat) (ad av : Nat → Nat) (sz : Nat) (h0 : Nat) (a : Nat → Nat) (k : Nat → ClassId) (f7 : Nat → Int32) (p0 : Int32) : Met l yX11_sign wm_c_sign ({ frames := 4, cells := 0, slots := 0, locals := 200 }) (pr_ ad av (dC, dI) sz [.ref h0, .int p0] [(h0, .inr (11, [.ref (a 1), .ref (a 2), .ref (a 3), .ref (a 4), .ref (a 5), .ref (a 6), .ref (a 7), .int 0, .ref (a 8), .int 0])), ((a 7), .inl ((k 7), 100, .inl f7))] [((k 7), .char)]) (va_Qi (fun (r u : Int32) => u = r) (fun (r : Int32) (t : State) => (r = 4)) (va_A [(h0, .inr (11, [.ref (a 1), .ref (a 2), .ref (a 3), .ref (a 4), .ref (a 5), .ref (a 6), .ref (a 7), .int 0, .ref (a 8), .int 0])), ((a 7), .inl ((k 7), 100, .inl f7))] sz)) 0 0 (va_A [(h0, .inr (11, [.ref (a 1), .ref (a 2), .ref (a 3), .ref (a 4), .ref (a 5), .ref (a 6), .ref (a 7), .int 0, .ref (a 8), .int 0])), ((a 7), .inl ((k 7), 100, .inl f7))] sz) := by
  refine Met.ofW (cc := cX11_sign) (maxL := 3) (ret := (some .int)) (by decide) rfl ?_
  intro p e s m args below meth c s₁ B hml hv
  obtain ⟨rfl, hsz, hP, hK, hD0, hM⟩ := hv
  have hx := B.exec
  have hb := B.bytes
  have hr := B.returns
  have hts := atoms_spec (ws := wm_c_sign) B.pre
  have hown : s.vm.findClass RX11 = some m.cls := findClass_of_methodNamed B.named
  have hlocks := B.notSynchronized
  subst hsz
  have hD := hD0.self (sz := s.heap.size)
  generalize hAe : va_A [(h0, .inr (11, [.ref (a 1), .ref (a 2), .ref (a 3), .ref (a 4), .ref (a 5), .ref (a 6), .ref (a 7), .int 0, .ref (a 8), .int 0])), ((a 7), .inl ((k 7), 100, .inl f7))] s.heap.size = A at hD hM ⊢
  have hA : ∀ q : Nat, s.heap.size ≤ q → A q := fun q h => by rw [← hAe]; exact Or.inr h
  have hS : va_S A s.heap s.heap [] := va_S.rf
  have hP : va_P (dC, dI) vwCl [(h0, .inr (11, [.ref (a 1), .ref (a 2), .ref (a 3), .ref (a 4), .ref (a 5), .ref (a 6), .ref (a 7), .int 0, .ref (a 8), .int 0])), ((a 7), .inl ((k 7), 100, .inl f7))] s.heap := hP
  have hl := lv_entry ([.ref h0, .int p0]) (n := 3) (Nat.le_of_ble_eq_true rfl)
  rw [lg_entry_eq]
  generalize (lg_sl ([.ref h0, .int p0]) ++ List.replicate (3 - (lg_sl ([.ref h0, .int p0])).length) Slot.unset).toArray = ls at hl ⊢
  have hl : lv_has ls 3 [(0, .ref h0), (1, .int p0)] := hl
  refine lv_aload_n hx hb dX11_sign_0 rfl (lv_at hl 0 rfl) ?_
  refine va_get (D := (dC, dI)) (ci := 11) (v := .int 0) (C := RX11) (T := TX11) (N := 10) hx hb hts (fun _ hh => (List.mem_cons_of_mem _ (List.mem_append_right _ (List.mem_append_left _ hh)))) hown hK hP 0 rfl rfl 7 (by decide) (hts (.fieldLink RX11 57 "TypingPool" "textLength" "I") (List.mem_cons_of_mem _ (List.mem_append_left _ (List.mem_of_getElem? (i := 0) rfl)))) (fun _ h9 => h9) rfl dX11_sign_1 ?_
  refine lv_iconst (v := 4) hx hb dX11_sign_4 (by decide) ?_
  refine lv_iadd hx hb dX11_sign_5 ?_
  refine lq_top (v := 4) (by decide) ?_
  refine lv_bipush (v := 100) hx hb dX11_sign_6 (by decide) ?_
  refine lv_icmp_le (tgt := 13) hx hb dX11_sign_8 (by decide) (fun c_62 => ?_) (fun c_62 => absurd c_62 (fun z => z (by decide)))
  refine lv_bipush (v := 24) hx hb dX11_sign_13 (by decide) ?_
  refine lv_istore_n (lv' := [(2, .int 24), (0, .ref h0), (1, .int p0)]) hx hb dX11_sign_15 rfl hl (by decide) rfl (fun ls hl => ?_)
  refine lv_iload_n hx hb dX11_sign_16 rfl (lv_at hl 0 rfl) ?_
  refine lv_if_lt (tgt := 53) hx hb dX11_sign_17 (by decide) (fun c_63 => absurd c_63 (by decide)) (fun c_63 => ?_)
  refine lv_aload_n hx hb dX11_sign_20 rfl (lv_at hl 1 rfl) ?_
  refine va_get (D := (dC, dI)) (ci := 11) (v := .ref (a 7)) (C := RX11) (T := TX11) (N := 10) hx hb hts (fun _ hh => (List.mem_cons_of_mem _ (List.mem_append_right _ (List.mem_append_left _ hh)))) hown hK hP 0 rfl rfl 6 (by decide) (hts (.fieldLink RX11 53 "TypingPool" "text" "[C") (List.mem_cons_of_mem _ (List.mem_append_left _ (List.mem_of_getElem? (i := 1) rfl)))) (fun _ h9 => h9) rfl dX11_sign_21 ?_
  refine lv_aload_n hx hb dX11_sign_24 rfl (lv_at hl 1 rfl) ?_
  refine va_get (D := (dC, dI)) (ci := 11) (v := .int 0) (C := RX11) (T := TX11) (N := 10) hx hb hts (fun _ hh => (List.mem_cons_of_mem _ (List.mem_append_right _ (List.mem_append_left _ hh)))) hown hK hP 0 rfl rfl 7 (by decide) (hts (.fieldLink RX11 57 "TypingPool" "textLength" "I") (List.mem_cons_of_mem _ (List.mem_append_left _ (List.mem_of_getElem? (i := 0) rfl)))) (fun _ h9 => h9) rfl dX11_sign_25 ?_
  refine lv_iload_n hx hb dX11_sign_28 rfl (lv_at hl 2 rfl) ?_
  refine lv_iload_n hx hb dX11_sign_29 rfl (lv_at hl 0 rfl) ?_
  refine lv_iushr hx hb dX11_sign_30 rfl ?_
  refine lv_topi (fun x_64 ex_64 => ?_)
  refine lv_sipush (v := 255) hx hb dX11_sign_31 (by decide) ?_
  refine lv_iand hx hb dX11_sign_34 ?_
  refine lv_topi (fun x_65 ex_65 => ?_)
  refine lv_i2c hx hb dX11_sign_35 rfl ?_
  refine lv_topi (fun x_66 ex_66 => ?_)
  refine va_cast hx hb hK hP hD hS 1 0 rfl rfl (by unfold vp_in; decide) dX11_sign_36 (fun H locs hP hD hS => ?_)
  obtain ⟨f_67, ef_67⟩ : ∃ y : Nat → Int32, y = upd f7 (0 : Int32).toNatClampNeg (vp_nar .char x_66) := ⟨_, rfl⟩
  have hP : va_P (dC, dI) vwCl [(h0, .inr (11, [.ref (a 1), .ref (a 2), .ref (a 3), .ref (a 4), .ref (a 5), .ref (a 6), .ref (a 7), .int 0, .ref (a 8), .int 0])), ((a 7), .inl ((k 7), 100, .inl f_67))] H := by rw [ef_67]; exact hP
  have hD : va_D A [(h0, .inr (11, [.ref (a 1), .ref (a 2), .ref (a 3), .ref (a 4), .ref (a 5), .ref (a 6), .ref (a 7), .int 0, .ref (a 8), .int 0])), ((a 7), .inl ((k 7), 100, .inl f_67))] := by rw [ef_67]; exact hD
  refine lv_aload_n hx hb dX11_sign_37 rfl (lv_at hl 1 rfl) ?_
  refine lv_dup hx hb dX11_sign_38 rfl ?_
  refine va_get (D := (dC, dI)) (ci := 11) (v := .int 0) (C := RX11) (T := TX11) (N := 10) hx hb hts (fun _ hh => (List.mem_cons_of_mem _ (List.mem_append_right _ (List.mem_append_left _ hh)))) hown hK hP 0 rfl rfl 7 (by decide) (hts (.fieldLink RX11 57 "TypingPool" "textLength" "I") (List.mem_cons_of_mem _ (List.mem_append_left _ (List.mem_of_getElem? (i := 0) rfl)))) (fun _ h9 => h9) rfl dX11_sign_39 ?_
  refine lv_iconst (v := 1) hx hb dX11_sign_42 (by decide) ?_
  refine lv_iadd hx hb dX11_sign_43 ?_
  refine lq_top (v := 1) (by decide) ?_
  refine va_put (D := (dC, dI)) (ci := 11) (v := .int 1) (ty := .int) (C := RX11) (T := TX11) (N := 10) hx hb hts (fun _ hh => (List.mem_cons_of_mem _ (List.mem_append_right _ (List.mem_append_left _ hh)))) tyX11 tyX11_ok nmX11 hown hK hP hD hS 0 rfl rfl 7 (by decide) (hts (.fieldLink RX11 57 "TypingPool" "textLength" "I") (List.mem_cons_of_mem _ (List.mem_append_left _ (List.mem_of_getElem? (i := 0) rfl)))) (fun _ h9 => h9) rfl (tyX11_ok 7 (by decide)) rfl rfl (Nat.le_of_ble_eq_true rfl) dX11_sign_44 (fun H locs hP hD hS => ?_)
  have hP : va_P (dC, dI) vwCl [(h0, .inr (11, [.ref (a 1), .ref (a 2), .ref (a 3), .ref (a 4), .ref (a 5), .ref (a 6), .ref (a 7), .int 1, .ref (a 8), .int 0])), ((a 7), .inl ((k 7), 100, .inl f_67))] H := hP
  have hD : va_D A [(h0, .inr (11, [.ref (a 1), .ref (a 2), .ref (a 3), .ref (a 4), .ref (a 5), .ref (a 6), .ref (a 7), .int 1, .ref (a 8), .int 0])), ((a 7), .inl ((k 7), 100, .inl f_67))] := hD
  refine lv_iinc (v := 16) (lv' := [(2, .int 16), (0, .ref h0), (1, .int p0)]) hx hb dX11_sign_47 hl (k := 0) rfl (by decide) (by decide) rfl (fun ls hl => ?_)
  refine lv_goto (tgt := 16) hx hb dX11_sign_50 (by decide) ?_
  refine lv_iload_n hx hb dX11_sign_16 rfl (lv_at hl 0 rfl) ?_
  refine lv_if_lt (tgt := 53) hx hb dX11_sign_17 (by decide) (fun c_68 => absurd c_68 (by decide)) (fun c_68 => ?_)
  refine lv_aload_n hx hb dX11_sign_20 rfl (lv_at hl 1 rfl) ?_
  refine va_get (D := (dC, dI)) (ci := 11) (v := .ref (a 7)) (C := RX11) (T := TX11) (N := 10) hx hb hts (fun _ hh => (List.mem_cons_of_mem _ (List.mem_append_right _ (List.mem_append_left _ hh)))) hown hK hP 0 rfl rfl 6 (by decide) (hts (.fieldLink RX11 53 "TypingPool" "text" "[C") (List.mem_cons_of_mem _ (List.mem_append_left _ (List.mem_of_getElem? (i := 1) rfl)))) (fun _ h9 => h9) rfl dX11_sign_21 ?_
  refine lv_aload_n hx hb dX11_sign_24 rfl (lv_at hl 1 rfl) ?_
  refine va_get (D := (dC, dI)) (ci := 11) (v := .int 1) (C := RX11) (T := TX11) (N := 10) hx hb hts (fun _ hh => (List.mem_cons_of_mem _ (List.mem_append_right _ (List.mem_append_left _ hh)))) hown hK hP 0 rfl rfl 7 (by decide) (hts (.fieldLink RX11 57 "TypingPool" "textLength" "I") (List.mem_cons_of_mem _ (List.mem_append_left _ (List.mem_of_getElem? (i := 0) rfl)))) (fun _ h9 => h9) rfl dX11_sign_25 ?_
  refine lv_iload_n hx hb dX11_sign_28 rfl (lv_at hl 2 rfl) ?_
  refine lv_iload_n hx hb dX11_sign_29 rfl (lv_at hl 0 rfl) ?_
  refine lv_iushr hx hb dX11_sign_30 rfl ?_
  refine lv_topi (fun x_69 ex_69 => ?_)
  refine lv_sipush (v := 255) hx hb dX11_sign_31 (by decide) ?_
  refine lv_iand hx hb dX11_sign_34 ?_
  refine lv_topi (fun x_70 ex_70 => ?_)
  refine lv_i2c hx hb dX11_sign_35 rfl ?_
  refine lv_topi (fun x_71 ex_71 => ?_)
  refine va_cast hx hb hK hP hD hS 1 0 rfl rfl (by unfold vp_in; decide) dX11_sign_36 (fun H locs hP hD hS => ?_)
  obtain ⟨f_72, ef_72⟩ : ∃ y : Nat → Int32, y = upd f_67 (1 : Int32).toNatClampNeg (vp_nar .char x_71) := ⟨_, rfl⟩
  have hP : va_P (dC, dI) vwCl [(h0, .inr (11, [.ref (a 1), .ref (a 2), .ref (a 3), .ref (a 4), .ref (a 5), .ref (a 6), .ref (a 7), .int 1, .ref (a 8), .int 0])), ((a 7), .inl ((k 7), 100, .inl f_72))] H := by rw [ef_72]; exact hP
  have hD : va_D A [(h0, .inr (11, [.ref (a 1), .ref (a 2), .ref (a 3), .ref (a 4), .ref (a 5), .ref (a 6), .ref (a 7), .int 1, .ref (a 8), .int 0])), ((a 7), .inl ((k 7), 100, .inl f_72))] := by rw [ef_72]; exact hD
  refine lv_aload_n hx hb dX11_sign_37 rfl (lv_at hl 1 rfl) ?_
  refine lv_dup hx hb dX11_sign_38 rfl ?_
  refine va_get (D := (dC, dI)) (ci := 11) (v := .int 1) (C := RX11) (T := TX11) (N := 10) hx hb hts (fun _ hh => (List.mem_cons_of_mem _ (List.mem_append_right _ (List.mem_append_left _ hh)))) hown hK hP 0 rfl rfl 7 (by decide) (hts (.fieldLink RX11 57 "TypingPool" "textLength" "I") (List.mem_cons_of_mem _ (List.mem_append_left _ (List.mem_of_getElem? (i := 0) rfl)))) (fun _ h9 => h9) rfl dX11_sign_39 ?_
  refine lv_iconst (v := 1) hx hb dX11_sign_42 (by decide) ?_
  refine lv_iadd hx hb dX11_sign_43 ?_
  refine lq_top (v := 2) (by decide) ?_
  refine va_put (D := (dC, dI)) (ci := 11) (v := .int 2) (ty := .int) (C := RX11) (T := TX11) (N := 10) hx hb hts (fun _ hh => (List.mem_cons_of_mem _ (List.mem_append_right _ (List.mem_append_left _ hh)))) tyX11 tyX11_ok nmX11 hown hK hP hD hS 0 rfl rfl 7 (by decide) (hts (.fieldLink RX11 57 "TypingPool" "textLength" "I") (List.mem_cons_of_mem _ (List.mem_append_left _ (List.mem_of_getElem? (i := 0) rfl)))) (fun _ h9 => h9) rfl (tyX11_ok 7 (by decide)) rfl rfl (Nat.le_of_ble_eq_true rfl) dX11_sign_44 (fun H locs hP hD hS => ?_)
  have hP : va_P (dC, dI) vwCl [(h0, .inr (11, [.ref (a 1), .ref (a 2), .ref (a 3), .ref (a 4), .ref (a 5), .ref (a 6), .ref (a 7), .int 2, .ref (a 8), .int 0])), ((a 7), .inl ((k 7), 100, .inl f_72))] H := hP
  have hD : va_D A [(h0, .inr (11, [.ref (a 1), .ref (a 2), .ref (a 3), .ref (a 4), .ref (a 5), .ref (a 6), .ref (a 7), .int 2, .ref (a 8), .int 0])), ((a 7), .inl ((k 7), 100, .inl f_72))] := hD
  refine lv_iinc (v := 8) (lv' := [(2, .int 8), (0, .ref h0), (1, .int p0)]) hx hb dX11_sign_47 hl (k := 0) rfl (by decide) (by decide) rfl (fun ls hl => ?_)
  refine lv_goto (tgt := 16) hx hb dX11_sign_50 (by decide) ?_
  refine lv_iload_n hx hb dX11_sign_16 rfl (lv_at hl 0 rfl) ?_
  refine lv_if_lt (tgt := 53) hx hb dX11_sign_17 (by decide) (fun c_73 => absurd c_73 (by decide)) (fun c_73 => ?_)
  refine lv_aload_n hx hb dX11_sign_20 rfl (lv_at hl 1 rfl) ?_
  refine va_get (D := (dC, dI)) (ci := 11) (v := .ref (a 7)) (C := RX11) (T := TX11) (N := 10) hx hb hts (fun _ hh => (List.mem_cons_of_mem _ (List.mem_append_right _ (List.mem_append_left _ hh)))) hown hK hP 0 rfl rfl 6 (by decide) (hts (.fieldLink RX11 53 "TypingPool" "text" "[C") (List.mem_cons_of_mem _ (List.mem_append_left _ (List.mem_of_getElem? (i := 1) rfl)))) (fun _ h9 => h9) rfl dX11_sign_21 ?_
  refine lv_aload_n hx hb dX11_sign_24 rfl (lv_at hl 1 rfl) ?_
  refine va_get (D := (dC, dI)) (ci := 11) (v := .int 2) (C := RX11) (T := TX11) (N := 10) hx hb hts (fun _ hh => (List.mem_cons_of_mem _ (List.mem_append_right _ (List.mem_append_left _ hh)))) hown hK hP 0 rfl rfl 7 (by decide) (hts (.fieldLink RX11 57 "TypingPool" "textLength" "I") (List.mem_cons_of_mem _ (List.mem_append_left _ (List.mem_of_getElem? (i := 0) rfl)))) (fun _ h9 => h9) rfl dX11_sign_25 ?_
  refine lv_iload_n hx hb dX11_sign_28 rfl (lv_at hl 2 rfl) ?_
  refine lv_iload_n hx hb dX11_sign_29 rfl (lv_at hl 0 rfl) ?_
  refine lv_iushr hx hb dX11_sign_30 rfl ?_
  refine lv_topi (fun x_74 ex_74 => ?_)
  refine lv_sipush (v := 255) hx hb dX11_sign_31 (by decide) ?_
  refine lv_iand hx hb dX11_sign_34 ?_
  refine lv_topi (fun x_75 ex_75 => ?_)
  refine lv_i2c hx hb dX11_sign_35 rfl ?_
  refine lv_topi (fun x_76 ex_76 => ?_)
  refine va_cast hx hb hK hP hD hS 1 0 rfl rfl (by unfold vp_in; decide) dX11_sign_36 (fun H locs hP hD hS => ?_)
  obtain ⟨f_77, ef_77⟩ : ∃ y : Nat → Int32, y = upd f_72 (2 : Int32).toNatClampNeg (vp_nar .char x_76) := ⟨_, rfl⟩
  have hP : va_P (dC, dI) vwCl [(h0, .inr (11, [.ref (a 1), .ref (a 2), .ref (a 3), .ref (a 4), .ref (a 5), .ref (a 6), .ref (a 7), .int 2, .ref (a 8), .int 0])), ((a 7), .inl ((k 7), 100, .inl f_77))] H := by rw [ef_77]; exact hP
  have hD : va_D A [(h0, .inr (11, [.ref (a 1), .ref (a 2), .ref (a 3), .ref (a 4), .ref (a 5), .ref (a 6), .ref (a 7), .int 2, .ref (a 8), .int 0])), ((a 7), .inl ((k 7), 100, .inl f_77))] := by rw [ef_77]; exact hD
  refine lv_aload_n hx hb dX11_sign_37 rfl (lv_at hl 1 rfl) ?_
  refine lv_dup hx hb dX11_sign_38 rfl ?_
  refine va_get (D := (dC, dI)) (ci := 11) (v := .int 2) (C := RX11) (T := TX11) (N := 10) hx hb hts (fun _ hh => (List.mem_cons_of_mem _ (List.mem_append_right _ (List.mem_append_left _ hh)))) hown hK hP 0 rfl rfl 7 (by decide) (hts (.fieldLink RX11 57 "TypingPool" "textLength" "I") (List.mem_cons_of_mem _ (List.mem_append_left _ (List.mem_of_getElem? (i := 0) rfl)))) (fun _ h9 => h9) rfl dX11_sign_39 ?_
  refine lv_iconst (v := 1) hx hb dX11_sign_42 (by decide) ?_
  refine lv_iadd hx hb dX11_sign_43 ?_
  refine lq_top (v := 3) (by decide) ?_
  refine va_put (D := (dC, dI)) (ci := 11) (v := .int 3) (ty := .int) (C := RX11) (T := TX11) (N := 10) hx hb hts (fun _ hh => (List.mem_cons_of_mem _ (List.mem_append_right _ (List.mem_append_left _ hh)))) tyX11 tyX11_ok nmX11 hown hK hP hD hS 0 rfl rfl 7 (by decide) (hts (.fieldLink RX11 57 "TypingPool" "textLength" "I") (List.mem_cons_of_mem _ (List.mem_append_left _ (List.mem_of_getElem? (i := 0) rfl)))) (fun _ h9 => h9) rfl (tyX11_ok 7 (by decide)) rfl rfl (Nat.le_of_ble_eq_true rfl) dX11_sign_44 (fun H locs hP hD hS => ?_)
  have hP : va_P (dC, dI) vwCl [(h0, .inr (11, [.ref (a 1), .ref (a 2), .ref (a 3), .ref (a 4), .ref (a 5), .ref (a 6), .ref (a 7), .int 3, .ref (a 8), .int 0])), ((a 7), .inl ((k 7), 100, .inl f_77))] H := hP
  have hD : va_D A [(h0, .inr (11, [.ref (a 1), .ref (a 2), .ref (a 3), .ref (a 4), .ref (a 5), .ref (a 6), .ref (a 7), .int 3, .ref (a 8), .int 0])), ((a 7), .inl ((k 7), 100, .inl f_77))] := hD
  refine lv_iinc (v := 0) (lv' := [(2, .int 0), (0, .ref h0), (1, .int p0)]) hx hb dX11_sign_47 hl (k := 0) rfl (by decide) (by decide) rfl (fun ls hl => ?_)
  refine lv_goto (tgt := 16) hx hb dX11_sign_50 (by decide) ?_
  refine lv_iload_n hx hb dX11_sign_16 rfl (lv_at hl 0 rfl) ?_
  refine lv_if_lt (tgt := 53) hx hb dX11_sign_17 (by decide) (fun c_78 => absurd c_78 (by decide)) (fun c_78 => ?_)
  refine lv_aload_n hx hb dX11_sign_20 rfl (lv_at hl 1 rfl) ?_
  refine va_get (D := (dC, dI)) (ci := 11) (v := .ref (a 7)) (C := RX11) (T := TX11) (N := 10) hx hb hts (fun _ hh => (List.mem_cons_of_mem _ (List.mem_append_right _ (List.mem_append_left _ hh)))) hown hK hP 0 rfl rfl 6 (by decide) (hts (.fieldLink RX11 53 "TypingPool" "text" "[C") (List.mem_cons_of_mem _ (List.mem_append_left _ (List.mem_of_getElem? (i := 1) rfl)))) (fun _ h9 => h9) rfl dX11_sign_21 ?_
  refine lv_aload_n hx hb dX11_sign_24 rfl (lv_at hl 1 rfl) ?_
  refine va_get (D := (dC, dI)) (ci := 11) (v := .int 3) (C := RX11) (T := TX11) (N := 10) hx hb hts (fun _ hh => (List.mem_cons_of_mem _ (List.mem_append_right _ (List.mem_append_left _ hh)))) hown hK hP 0 rfl rfl 7 (by decide) (hts (.fieldLink RX11 57 "TypingPool" "textLength" "I") (List.mem_cons_of_mem _ (List.mem_append_left _ (List.mem_of_getElem? (i := 0) rfl)))) (fun _ h9 => h9) rfl dX11_sign_25 ?_
  refine lv_iload_n hx hb dX11_sign_28 rfl (lv_at hl 2 rfl) ?_
  refine lv_iload_n hx hb dX11_sign_29 rfl (lv_at hl 0 rfl) ?_
  refine lv_iushr hx hb dX11_sign_30 rfl ?_
  refine lv_topi (fun x_79 ex_79 => ?_)
  refine lv_sipush (v := 255) hx hb dX11_sign_31 (by decide) ?_
  refine lv_iand hx hb dX11_sign_34 ?_
  refine lv_topi (fun x_80 ex_80 => ?_)
  refine lv_i2c hx hb dX11_sign_35 rfl ?_
  refine lv_topi (fun x_81 ex_81 => ?_)
  refine va_cast hx hb hK hP hD hS 1 0 rfl rfl (by unfold vp_in; decide) dX11_sign_36 (fun H locs hP hD hS => ?_)
  obtain ⟨f_82, ef_82⟩ : ∃ y : Nat → Int32, y = upd f_77 (3 : Int32).toNatClampNeg (vp_nar .char x_81) := ⟨_, rfl⟩
  have hP : va_P (dC, dI) vwCl [(h0, .inr (11, [.ref (a 1), .ref (a 2), .ref (a 3), .ref (a 4), .ref (a 5), .ref (a 6), .ref (a 7), .int 3, .ref (a 8), .int 0])), ((a 7), .inl ((k 7), 100, .inl f_82))] H := by rw [ef_82]; exact hP
  have hD : va_D A [(h0, .inr (11, [.ref (a 1), .ref (a 2), .ref (a 3), .ref (a 4), .ref (a 5), .ref (a 6), .ref (a 7), .int 3, .ref (a 8), .int 0])), ((a 7), .inl ((k 7), 100, .inl f_82))] := by rw [ef_82]; exact hD
  refine lv_aload_n hx hb dX11_sign_37 rfl (lv_at hl 1 rfl) ?_
  refine lv_dup hx hb dX11_sign_38 rfl ?_
  refine va_get (D := (dC, dI)) (ci := 11) (v := .int 3) (C := RX11) (T := TX11) (N := 10) hx hb hts (fun _ hh => (List.mem_cons_of_mem _ (List.mem_append_right _ (List.mem_append_left _ hh)))) hown hK hP 0 rfl rfl 7 (by decide) (hts (.fieldLink RX11 57 "TypingPool" "textLength" "I") (List.mem_cons_of_mem _ (List.mem_append_left _ (List.mem_of_getElem? (i := 0) rfl)))) (fun _ h9 => h9) rfl dX11_sign_39 ?_
  refine lv_iconst (v := 1) hx hb dX11_sign_42 (by decide) ?_
  refine lv_iadd hx hb dX11_sign_43 ?_
  refine lq_top (v := 4) (by decide) ?_
  refine va_put (D := (dC, dI)) (ci := 11) (v := .int 4) (ty := .int) (C := RX11) (T := TX11) (N := 10) hx hb hts (fun _ hh => (List.mem_cons_of_mem _ (List.mem_append_right _ (List.mem_append_left _ hh)))) tyX11 tyX11_ok nmX11 hown hK hP hD hS 0 rfl rfl 7 (by decide) (hts (.fieldLink RX11 57 "TypingPool" "textLength" "I") (List.mem_cons_of_mem _ (List.mem_append_left _ (List.mem_of_getElem? (i := 0) rfl)))) (fun _ h9 => h9) rfl (tyX11_ok 7 (by decide)) rfl rfl (Nat.le_of_ble_eq_true rfl) dX11_sign_44 (fun H locs hP hD hS => ?_)
  have hP : va_P (dC, dI) vwCl [(h0, .inr (11, [.ref (a 1), .ref (a 2), .ref (a 3), .ref (a 4), .ref (a 5), .ref (a 6), .ref (a 7), .int 4, .ref (a 8), .int 0])), ((a 7), .inl ((k 7), 100, .inl f_82))] H := hP
  have hD : va_D A [(h0, .inr (11, [.ref (a 1), .ref (a 2), .ref (a 3), .ref (a 4), .ref (a 5), .ref (a 6), .ref (a 7), .int 4, .ref (a 8), .int 0])), ((a 7), .inl ((k 7), 100, .inl f_82))] := hD
  refine lv_iinc (v := (-8)) (lv' := [(2, .int (-8)), (0, .ref h0), (1, .int p0)]) hx hb dX11_sign_47 hl (k := 0) rfl (by decide) (by decide) rfl (fun ls hl => ?_)
  refine lv_goto (tgt := 16) hx hb dX11_sign_50 (by decide) ?_
  refine lv_iload_n hx hb dX11_sign_16 rfl (lv_at hl 0 rfl) ?_
  refine lv_if_lt (tgt := 53) hx hb dX11_sign_17 (by decide) (fun c_83 => ?_) (fun c_83 => absurd c_83 (fun z => z (by decide)))
  refine lv_aload_n hx hb dX11_sign_53 rfl (lv_at hl 1 rfl) ?_
  refine va_get (D := (dC, dI)) (ci := 11) (v := .int 4) (C := RX11) (T := TX11) (N := 10) hx hb hts (fun _ hh => (List.mem_cons_of_mem _ (List.mem_append_right _ (List.mem_append_left _ hh)))) hown hK hP 0 rfl rfl 7 (by decide) (hts (.fieldLink RX11 57 "TypingPool" "textLength" "I") (List.mem_cons_of_mem _ (List.mem_append_left _ (List.mem_of_getElem? (i := 0) rfl)))) (fun _ h9 => h9) rfl dX11_sign_54 ?_
  exact W.iret (v := 4) hx hb hr (fun t ht hW => ⟨⟨4, 4, rfl, rfl, rfl⟩, hS.F ht⟩) hS.2.2 dX11_sign_57
def wo_c_end : List Cond := [.fieldLink RX11 57 "TypingPool" "textLength" "I"]
def wm_c_end : List Cond := .code yX11_end cX11_end 2 (some .boolean) :: (wo_c_end ++ (wsX110 ++ ([] : List Cond)))
theorem gd_c_end : ∀ w ∈ wm_c_end, goodWord w = true := gd_c rfl (gd_a (by decide) (gd_a gd_wsX110 gd_nil))
set_option maxRecDepth 20000 in
theorem im_c_end : ∀ w ∈ wm_c_end, w ∈ lw_tbl := im_c (in_r [.code yX11_end cX11_end 2 (some .boolean)] [734] (by decide +kernel)) (in_app (in_r wo_c_end [566] (by decide +kernel)) (in_app im_wsX110 im_nil))
set_option maxHeartbeats 4000000 in
set_option maxRecDepth 100000 in
theorem c_end (l : Launch) (dC : Nat → ClassId) (dI : Nat → Nat → Nat) (ad av : Nat → Nat) (sz : Nat) (h0 : Nat) (a : Nat → Nat) (k : Nat → ClassId) (p0 : Int32) : Met l yX11_end wm_c_end ({ frames := 4, cells := 0, slots := 0, locals := 200 }) (pr_ ad av (dC, dI) sz [.ref h0, .int p0] [(h0, .inr (11, [.ref (a 1), .ref (a 2), .ref (a 3), .ref (a 4), .ref (a 5), .ref (a 6), .ref (a 7), .int 0, .ref (a 8), .int 0]))] []) (va_Qi (fun (r u : Int32) => u = r) (fun (r : Int32) (t : State) => (r = sp_end p0)) (va_A [(h0, .inr (11, [.ref (a 1), .ref (a 2), .ref (a 3), .ref (a 4), .ref (a 5), .ref (a 6), .ref (a 7), .int 0, .ref (a 8), .int 0]))] sz)) 0 0 (va_A [(h0, .inr (11, [.ref (a 1), .ref (a 2), .ref (a 3), .ref (a 4), .ref (a 5), .ref (a 6), .ref (a 7), .int 0, .ref (a 8), .int 0]))] sz) := by
  refine Met.ofW (cc := cX11_end) (maxL := 2) (ret := (some .boolean)) (by decide) rfl ?_
  intro p e s m args below meth c s₁ B hml hv
  obtain ⟨rfl, hsz, hP, hK, hD0, hM⟩ := hv
  have hx := B.exec
  have hb := B.bytes
  have hr := B.returns
  have hts := atoms_spec (ws := wm_c_end) B.pre
  have hown : s.vm.findClass RX11 = some m.cls := findClass_of_methodNamed B.named
  have hlocks := B.notSynchronized
  subst hsz
  have hD := hD0.self (sz := s.heap.size)
  generalize hAe : va_A [(h0, .inr (11, [.ref (a 1), .ref (a 2), .ref (a 3), .ref (a 4), .ref (a 5), .ref (a 6), .ref (a 7), .int 0, .ref (a 8), .int 0]))] s.heap.size = A at hD hM ⊢
  have hA : ∀ q : Nat, s.heap.size ≤ q → A q := fun q h => by rw [← hAe]; exact Or.inr h
  have hS : va_S A s.heap s.heap [] := va_S.rf
  have hP : va_P (dC, dI) vwCl [(h0, .inr (11, [.ref (a 1), .ref (a 2), .ref (a 3), .ref (a 4), .ref (a 5), .ref (a 6), .ref (a 7), .int 0, .ref (a 8), .int 0]))] s.heap := hP
  have hl := lv_entry ([.ref h0, .int p0]) (n := 2) (Nat.le_of_ble_eq_true rfl)
  rw [lg_entry_eq]
  generalize (lg_sl ([.ref h0, .int p0]) ++ List.replicate (2 - (lg_sl ([.ref h0, .int p0])).length) Slot.unset).toArray = ls at hl ⊢
  have hl : lv_has ls 2 [(0, .ref h0), (1, .int p0)] := hl
  refine lv_iload_n hx hb dX11_end_0 rfl (lv_at hl 1 rfl) ?_
  refine lv_if_lt (tgt := 12) hx hb dX11_end_1 (by decide) (fun c_84 => ?_) (fun c_84 => ?_)
  · refine lv_iconst (v := 0) hx hb dX11_end_12 (by decide) ?_
    exact W.zret (v := 0) hx hb hr (by decide) (fun t ht hW => ⟨⟨0, 0, rfl, rfl, (if_neg (fun z => (rg_no1 c_84) z)).symm⟩, hS.F ht⟩) hS.2.2 dX11_end_13
  · refine lv_iload_n hx hb dX11_end_4 rfl (lv_at hl 1 rfl) ?_
    refine lv_aload_n hx hb dX11_end_5 rfl (lv_at hl 0 rfl) ?_
    refine va_get (D := (dC, dI)) (ci := 11) (v := .int 0) (C := RX11) (T := TX11) (N := 10) hx hb hts (fun _ hh => (List.mem_cons_of_mem _ (List.mem_append_right _ (List.mem_append_left _ hh)))) hown hK hP 0 rfl rfl 7 (by decide) (hts (.fieldLink RX11 57 "TypingPool" "textLength" "I") (List.mem_cons_of_mem _ (List.mem_append_left _ (List.mem_of_getElem? (i := 0) rfl)))) (fun _ h9 => h9) rfl dX11_end_6 ?_
    refine lv_icmp_le (tgt := 14) hx hb dX11_end_9 (by decide) (fun c_85 => ?_) (fun c_85 => ?_)
    · refine lv_aload_n hx hb dX11_end_14 rfl (lv_at hl 0 rfl) ?_
      refine lv_iload_n hx hb dX11_end_15 rfl (lv_at hl 1 rfl) ?_
      refine va_put (D := (dC, dI)) (ci := 11) (v := .int p0) (ty := .int) (C := RX11) (T := TX11) (N := 10) hx hb hts (fun _ hh => (List.mem_cons_of_mem _ (List.mem_append_right _ (List.mem_append_left _ hh)))) tyX11 tyX11_ok nmX11 hown hK hP hD hS 0 rfl rfl 7 (by decide) (hts (.fieldLink RX11 57 "TypingPool" "textLength" "I") (List.mem_cons_of_mem _ (List.mem_append_left _ (List.mem_of_getElem? (i := 0) rfl)))) (fun _ h9 => h9) rfl (tyX11_ok 7 (by decide)) rfl rfl (Nat.le_of_ble_eq_true rfl) dX11_end_16 (fun H locs hP hD hS => ?_)
      have hP : va_P (dC, dI) vwCl [(h0, .inr (11, [.ref (a 1), .ref (a 2), .ref (a 3), .ref (a 4), .ref (a 5), .ref (a 6), .ref (a 7), .int p0, .ref (a 8), .int 0]))] H := hP
      have hD : va_D A [(h0, .inr (11, [.ref (a 1), .ref (a 2), .ref (a 3), .ref (a 4), .ref (a 5), .ref (a 6), .ref (a 7), .int p0, .ref (a 8), .int 0]))] := hD
      refine lv_iconst (v := 1) hx hb dX11_end_19 (by decide) ?_
      exact W.zret (v := 1) hx hb hr (by decide) (fun t ht hW => ⟨⟨1, 1, rfl, rfl, (if_pos ⟨Int32.not_lt.mp c_84, c_85⟩).symm⟩, hS.F ht⟩) hS.2.2 dX11_end_20
    · refine lv_iconst (v := 0) hx hb dX11_end_12 (by decide) ?_
      exact W.zret (v := 0) hx hb hr (by decide) (fun t ht hW => ⟨⟨0, 0, rfl, rfl, (if_neg (fun z => (rg_no2 (Int32.not_le.mp c_85)) z)).symm⟩, hS.F ht⟩) hS.2.2 dX11_end_13
def wo_c_hand : List Cond := [.methodLink RX11 68 yX11_within, .static yX11_within, .initialized RX11, .constant RX11 78 (65535), .fieldLink RX11 10 "TypingPool" "book" "LTypingPool$Book;", .fieldLink RX11 79 "TypingPool$Book" "handCount" "I", .fieldLink RX11 82 "TypingPool$Book" "hands" "[LTypingPool$Hand;", .classLink RX11 86 RX4, .instantiable RX4 3, .initialized RX4, .instanceMethod yX4_init, .methodLink RX11 88 yX4_init, .fieldLink RX11 28 "TypingPool" "floor" "LTypingPool$Floor;", .methodLink RX11 91 yX3_openHand, .instanceMethod yX3_openHand, .selects RX3 yX3_openHand yX3_openHand, .initialized RX3]
def wm_c_hand : List Cond := .code yX11_hand cX11_hand 7 (some .int) :: (wo_c_hand ++ (wm_c_within ++ (wsX110 ++ (wsX10 ++ (wsX40 ++ (wm_c_Hand_init ++ (wm_c_openHand0 ++ ([] : List Cond))))))))
theorem gd_c_hand : ∀ w ∈ wm_c_hand, goodWord w = true := gd_c rfl (gd_a (by decide) (gd_a gd_c_within (gd_a gd_wsX110 (gd_a gd_wsX10 (gd_a gd_wsX40 (gd_a gd_c_Hand_init (gd_a gd_c_openHand0 gd_nil)))))))
set_option maxRecDepth 20000 in
theorem im_c_hand : ∀ w ∈ wm_c_hand, w ∈ lw_tbl := im_c (in_r [.code yX11_hand cX11_hand 7 (some .int)] [600] (by decide +kernel)) (in_app (in_r wo_c_hand [594, 595, 70, 601, 559, 124, 121, 602, 603, 87, 605, 604, 561, 621, 622, 623, 83] (by decide +kernel)) (in_app im_c_within (in_app im_wsX110 (in_app im_wsX10 (in_app im_wsX40 (in_app im_c_Hand_init (in_app im_c_openHand0 im_nil)))))))
set_option maxHeartbeats 4000000 in
set_option maxRecDepth 100000 in
theorem c_hand (l : Launch) (dC : Nat → ClassId) (dI : Nat → Nat → Nat) (ad av : Nat → Nat) (sz : Nat) (h0 : Nat) (a : Nat → Nat) (k : Nat → ClassId) (g10 : Nat → Option Nat) (f20 : Nat → Int32) (f21 : Nat → Int32) (f22 : Nat → Int32) (f23 : Nat → Int32) (p0 : Int32) (p1 : Int32) (p2 : Int32) (p3 : Int32) : Met l yX11_hand wm_c_hand ({ frames := 4, cells := 1, slots := 3, locals := 200 }) (pr_ ad av (dC, dI) sz [.ref h0, .int p0, .int p1, .int p2, .int p3] [(h0, .inr (11, [.ref (a 1), .ref (a 2), .ref (a 3), .ref (a 4), .ref (a 5), .ref (a 6), .ref (a 7), .int 0, .ref (a 8), .int 0])), ((a 1), .inr (1, [.ref (a 9), .int 0, .ref (a 10), .int 0, .ref (a 11), .int 0, .ref (a 12), .int 0])), ((a 10), .inl ((k 10), 8, .inr (.inr (.inr (.inr g10))))), ((a 3), .inr (3, [.ref (a 1), .ref (a 2), .int 0, .ref (a 20), .ref (a 21), .ref (a 22), .ref (a 23), .ref (a 24), .ref (a 25), .ref (a 26), .ref (a 27), .ref (a 28)])), ((a 20), .inl ((k 20), 8, .inl f20)), ((a 21), .inl ((k 21), 8, .inl f21)), ((a 22), .inl ((k 22), 8, .inl f22)), ((a 23), .inl ((k 23), 8, .inl f23))] [((k 10), .object RX4), ((k 20), .int), ((k 21), .int), ((k 22), .int), ((k 23), .int)]) (va_Qi (fun (r u : Int32) => u = r) (fun (r : Int32) (t : State) => (r = sp_hand p0 p1 p2 p3)) (va_A [(h0, .inr (11, [.ref (a 1), .ref (a 2), .ref (a 3), .ref (a 4), .ref (a 5), .ref (a 6), .ref (a 7), .int 0, .ref (a 8), .int 0])), ((a 1), .inr (1, [.ref (a 9), .int 0, .ref (a 10), .int 0, .ref (a 11), .int 0, .ref (a 12), .int 0])), ((a 10), .inl ((k 10), 8, .inr (.inr (.inr (.inr g10))))), ((a 3), .inr (3, [.ref (a 1), .ref (a 2), .int 0, .ref (a 20), .ref (a 21), .ref (a 22), .ref (a 23), .ref (a 24), .ref (a 25), .ref (a 26), .ref (a 27), .ref (a 28)])), ((a 20), .inl ((k 20), 8, .inl f20)), ((a 21), .inl ((k 21), 8, .inl f21)), ((a 22), .inl ((k 22), 8, .inl f22)), ((a 23), .inl ((k 23), 8, .inl f23))] sz)) 1 3 (va_A [(h0, .inr (11, [.ref (a 1), .ref (a 2), .ref (a 3), .ref (a 4), .ref (a 5), .ref (a 6), .ref (a 7), .int 0, .ref (a 8), .int 0])), ((a 1), .inr (1, [.ref (a 9), .int 0, .ref (a 10), .int 0, .ref (a 11), .int 0, .ref (a 12), .int 0])), ((a 10), .inl ((k 10), 8, .inr (.inr (.inr (.inr g10))))), ((a 3), .inr (3, [.ref (a 1), .ref (a 2), .int 0, .ref (a 20), .ref (a 21), .ref (a 22), .ref (a 23), .ref (a 24), .ref (a 25), .ref (a 26), .ref (a 27), .ref (a 28)])), ((a 20), .inl ((k 20), 8, .inl f20)), ((a 21), .inl ((k 21), 8, .inl f21)), ((a 22), .inl ((k 22), 8, .inl f22)), ((a 23), .inl ((k 23), 8, .inl f23))] sz) := by
  refine Met.ofW (cc := cX11_hand) (maxL := 7) (ret := (some .int)) (by decide) rfl ?_
  intro p e s m args below meth c s₁ B hml hv
  obtain ⟨rfl, hsz, hP, hK, hD0, hM⟩ := hv
  have hx := B.exec
  have hb := B.bytes
  have hr := B.returns
  have hts := atoms_spec (ws := wm_c_hand) B.pre
  have hown : s.vm.findClass RX11 = some m.cls := findClass_of_methodNamed B.named
  have hlocks := B.notSynchronized
  subst hsz
  have hD := hD0.self (sz := s.heap.size)
  generalize hAe : va_A [(h0, .inr (11, [.ref (a 1), .ref (a 2), .ref (a 3), .ref (a 4), .ref (a 5), .ref (a 6), .ref (a 7), .int 0, .ref (a 8), .int 0])), ((a 1), .inr (1, [.ref (a 9), .int 0, .ref (a 10), .int 0, .ref (a 11), .int 0, .ref (a 12), .int 0])), ((a 10), .inl ((k 10), 8, .inr (.inr (.inr (.inr g10))))), ((a 3), .inr (3, [.ref (a 1), .ref (a 2), .int 0, .ref (a 20), .ref (a 21), .ref (a 22), .ref (a 23), .ref (a 24), .ref (a 25), .ref (a 26), .ref (a 27), .ref (a 28)])), ((a 20), .inl ((k 20), 8, .inl f20)), ((a 21), .inl ((k 21), 8, .inl f21)), ((a 22), .inl ((k 22), 8, .inl f22)), ((a 23), .inl ((k 23), 8, .inl f23))] s.heap.size = A at hD hM ⊢
  have hA : ∀ q : Nat, s.heap.size ≤ q → A q := fun q h => by rw [← hAe]; exact Or.inr h
  have hS : va_S A s.heap s.heap [] := va_S.rf
  have hP : va_P (dC, dI) vwCl [(h0, .inr (11, [.ref (a 1), .ref (a 2), .ref (a 3), .ref (a 4), .ref (a 5), .ref (a 6), .ref (a 7), .int 0, .ref (a 8), .int 0])), ((a 1), .inr (1, [.ref (a 9), .int 0, .ref (a 10), .int 0, .ref (a 11), .int 0, .ref (a 12), .int 0])), ((a 10), .inl ((k 10), 8, .inr (.inr (.inr (.inr g10))))), ((a 3), .inr (3, [.ref (a 1), .ref (a 2), .int 0, .ref (a 20), .ref (a 21), .ref (a 22), .ref (a 23), .ref (a 24), .ref (a 25), .ref (a 26), .ref (a 27), .ref (a 28)])), ((a 20), .inl ((k 20), 8, .inl f20)), ((a 21), .inl ((k 21), 8, .inl f21)), ((a 22), .inl ((k 22), 8, .inl f22)), ((a 23), .inl ((k 23), 8, .inl f23))] s.heap := hP
  have hl := lv_entry ([.ref h0, .int p0, .int p1, .int p2, .int p3]) (n := 7) (Nat.le_of_ble_eq_true rfl)
  rw [lg_entry_eq]
  generalize (lg_sl ([.ref h0, .int p0, .int p1, .int p2, .int p3]) ++ List.replicate (7 - (lg_sl ([.ref h0, .int p0, .int p1, .int p2, .int p3])).length) Slot.unset).toArray = ls at hl ⊢
  have hl : lv_has ls 7 [(0, .ref h0), (1, .int p0), (2, .int p1), (3, .int p2), (4, .int p3)] := hl
  refine lv_iload_n hx hb dX11_hand_0 rfl (lv_at hl 1 rfl) ?_
  refine lv_bipush (v := 10) hx hb dX11_hand_1 (by decide) ?_
  refine lv_sipush (v := 200) hx hb dX11_hand_3 (by decide) ?_
  have hPc := hP.sub (ws' := []) [] rfl
  have hDc := hD.sub (ws' := []) [] (by decide) rfl
  have hKc := hK.sub (tys' := []) [] rfl
  have hFc := va_free (wc := []) hD hS hA [] rfl
  refine va_calli (va_runS (As := [.int p0, .int 10, .int 200]) (rest := []) ⟨hx, hb, hml, hown, hts⟩ (c_within l dC dI ad av s.heap.size p0 10 200 ) (va_cwS 3 hts (gi_3 (List.mem_cons_of_mem _ (List.mem_append_left _ (List.mem_of_getElem? (i := 0) rfl))) (List.mem_cons_of_mem _ (List.mem_append_left _ (List.mem_of_getElem? (i := 1) rfl))) (List.mem_cons_of_mem _ (List.mem_append_left _ (List.mem_of_getElem? (i := 2) rfl))) (fun _ hh => (List.mem_cons_of_mem _ (List.mem_append_right _ (List.mem_append_left _ hh)))) gd_c_within) rfl rfl rfl (by decide +kernel) ⟨Nat.le_of_ble_eq_true rfl, Nat.le_of_ble_eq_true rfl⟩) ⟨pr_blind, pr_use hPc hKc hDc hFc hS hM⟩ rfl rfl hl.1 rfl (lv_room (Nat.le_of_ble_eq_true rfl)) dX11_hand_6 ⟨Nat.le_of_ble_eq_true rfl, Nat.le_of_ble_eq_true rfl⟩) hS (fun q _ h => hFc q h) hFc (fun r_99 u t H locs ht hvm hw hB hz1 hk1 hS => ?_)
  refine W.widen (k := 0) (n := 0) (Nat.le_of_ble_eq_true rfl) (Nat.le_of_ble_eq_true rfl) ?_
  subst hw
  rcases hB with ⟨hre_100, hf_101, hf_102, hP1, hK1, hD1⟩ | ⟨hre_103, hf_104, hP1, hK1, hD1⟩
  · refine lq_top (v := 1) hre_100 ?_
    rw [ht] at hP1
    have hK1 := va_K.moved hvm.symm hK1
    obtain ⟨hP, hD⟩ := va_join (wr := [(h0, .inr (11, [.ref (a 1), .ref (a 2), .ref (a 3), .ref (a 4), .ref (a 5), .ref (a 6), .ref (a 7), .int 0, .ref (a 8), .int 0])), ((a 1), .inr (1, [.ref (a 9), .int 0, .ref (a 10), .int 0, .ref (a 11), .int 0, .ref (a 12), .int 0])), ((a 10), .inl ((k 10), 8, .inr (.inr (.inr (.inr g10))))), ((a 3), .inr (3, [.ref (a 1), .ref (a 2), .int 0, .ref (a 20), .ref (a 21), .ref (a 22), .ref (a 23), .ref (a 24), .ref (a 25), .ref (a 26), .ref (a 27), .ref (a 28)])), ((a 20), .inl ((k 20), 8, .inl f20)), ((a 21), .inl ((k 21), 8, .inl f21)), ((a 22), .inl ((k 22), 8, .inl f22)), ((a 23), .inl ((k 23), 8, .inl f23))]) (w1 := []) hP hD [] [0, 1, 2, 3, 4, 5, 6, 7] rfl rfl (by decide) (by decide) hk1 hFc hP1 hD1
    have hK := (hK.sub (tys' := [((k 10), .object RX4), ((k 20), .int), ((k 21), .int), ((k 22), .int), ((k 23), .int)]) [0, 1, 2, 3, 4] rfl).app hK1
    have hP : va_P (dC, dI) vwCl [(h0, .inr (11, [.ref (a 1), .ref (a 2), .ref (a 3), .ref (a 4), .ref (a 5), .ref (a 6), .ref (a 7), .int 0, .ref (a 8), .int 0])), ((a 1), .inr (1, [.ref (a 9), .int 0, .ref (a 10), .int 0, .ref (a 11), .int 0, .ref (a 12), .int 0])), ((a 10), .inl ((k 10), 8, .inr (.inr (.inr (.inr g10))))), ((a 3), .inr (3, [.ref (a 1), .ref (a 2), .int 0, .ref (a 20), .ref (a 21), .ref (a 22), .ref (a 23), .ref (a 24), .ref (a 25), .ref (a 26), .ref (a 27), .ref (a 28)])), ((a 20), .inl ((k 20), 8, .inl f20)), ((a 21), .inl ((k 21), 8, .inl f21)), ((a 22), .inl ((k 22), 8, .inl f22)), ((a 23), .inl ((k 23), 8, .inl f23))] H := hP
    have hD : va_D A [(h0, .inr (11, [.ref (a 1), .ref (a 2), .ref (a 3), .ref (a 4), .ref (a 5), .ref (a 6), .ref (a 7), .int 0, .ref (a 8), .int 0])), ((a 1), .inr (1, [.ref (a 9), .int 0, .ref (a 10), .int 0, .ref (a 11), .int 0, .ref (a 12), .int 0])), ((a 10), .inl ((k 10), 8, .inr (.inr (.inr (.inr g10))))), ((a 3), .inr (3, [.ref (a 1), .ref (a 2), .int 0, .ref (a 20), .ref (a 21), .ref (a 22), .ref (a 23), .ref (a 24), .ref (a 25), .ref (a 26), .ref (a 27), .ref (a 28)])), ((a 20), .inl ((k 20), 8, .inl f20)), ((a 21), .inl ((k 21), 8, .inl f21)), ((a 22), .inl ((k 22), 8, .inl f22)), ((a 23), .inl ((k 23), 8, .inl f23))] := hD
    have hK : va_K (dC, dI) vwCl [((k 10), .object RX4), ((k 20), .int), ((k 21), .int), ((k 22), .int), ((k 23), .int)] s := hK
    refine lv_if_eq (tgt := 47) hx hb dX11_hand_9 (by decide) (fun c_105 => absurd c_105 (by decide)) (fun c_105 => ?_)
    refine lv_iload_n hx hb dX11_hand_12 rfl (lv_at hl 2 rfl) ?_
    refine lv_iconst (v := 0) hx hb dX11_hand_13 (by decide) ?_
    refine lv_sipush (v := 255) hx hb dX11_hand_14 (by decide) ?_
    have hPc := hP.sub (ws' := []) [] rfl
    have hDc := hD.sub (ws' := []) [] (by decide) rfl
    have hKc := hK.sub (tys' := []) [] rfl
    have hFc := va_free (wc := []) hD hS hA [] rfl
    refine va_calli (va_runS (As := [.int p1, .int 0, .int 255]) (rest := []) ⟨hx, hb, hml, hown, hts⟩ (c_within l dC dI ad av H.size p1 0 255 ) (va_cwS 3 hts (gi_3 (List.mem_cons_of_mem _ (List.mem_append_left _ (List.mem_of_getElem? (i := 0) rfl))) (List.mem_cons_of_mem _ (List.mem_append_left _ (List.mem_of_getElem? (i := 1) rfl))) (List.mem_cons_of_mem _ (List.mem_append_left _ (List.mem_of_getElem? (i := 2) rfl))) (fun _ hh => (List.mem_cons_of_mem _ (List.mem_append_right _ (List.mem_append_left _ hh)))) gd_c_within) rfl rfl rfl (by decide +kernel) ⟨Nat.le_of_ble_eq_true rfl, Nat.le_of_ble_eq_true rfl⟩) ⟨pr_blind, pr_use hPc hKc hDc hFc hS hM⟩ rfl rfl hl.1 rfl (lv_room (Nat.le_of_ble_eq_true rfl)) dX11_hand_17 ⟨Nat.le_of_ble_eq_true rfl, Nat.le_of_ble_eq_true rfl⟩) hS (fun q _ h => hFc q h) hFc (fun r_106 u t H locs ht hvm hw hB hz1 hk1 hS => ?_)
    refine W.widen (k := 0) (n := 0) (Nat.le_of_ble_eq_true rfl) (Nat.le_of_ble_eq_true rfl) ?_
    subst hw
    rcases hB with ⟨hre_107, hf_108, hf_109, hP1, hK1, hD1⟩ | ⟨hre_110, hf_111, hP1, hK1, hD1⟩
    · refine lq_top (v := 1) hre_107 ?_
      rw [ht] at hP1
      have hK1 := va_K.moved hvm.symm hK1
      obtain ⟨hP, hD⟩ := va_join (wr := [(h0, .inr (11, [.ref (a 1), .ref (a 2), .ref (a 3), .ref (a 4), .ref (a 5), .ref (a 6), .ref (a 7), .int 0, .ref (a 8), .int 0])), ((a 1), .inr (1, [.ref (a 9), .int 0, .ref (a 10), .int 0, .ref (a 11), .int 0, .ref (a 12), .int 0])), ((a 10), .inl ((k 10), 8, .inr (.inr (.inr (.inr g10))))), ((a 3), .inr (3, [.ref (a 1), .ref (a 2), .int 0, .ref (a 20), .ref (a 21), .ref (a 22), .ref (a 23), .ref (a 24), .ref (a 25), .ref (a 26), .ref (a 27), .ref (a 28)])), ((a 20), .inl ((k 20), 8, .inl f20)), ((a 21), .inl ((k 21), 8, .inl f21)), ((a 22), .inl ((k 22), 8, .inl f22)), ((a 23), .inl ((k 23), 8, .inl f23))]) (w1 := []) hP hD [] [0, 1, 2, 3, 4, 5, 6, 7] rfl rfl (by decide) (by decide) hk1 hFc hP1 hD1
      have hK := (hK.sub (tys' := [((k 10), .object RX4), ((k 20), .int), ((k 21), .int), ((k 22), .int), ((k 23), .int)]) [0, 1, 2, 3, 4] rfl).app hK1
      have hP : va_P (dC, dI) vwCl [(h0, .inr (11, [.ref (a 1), .ref (a 2), .ref (a 3), .ref (a 4), .ref (a 5), .ref (a 6), .ref (a 7), .int 0, .ref (a 8), .int 0])), ((a 1), .inr (1, [.ref (a 9), .int 0, .ref (a 10), .int 0, .ref (a 11), .int 0, .ref (a 12), .int 0])), ((a 10), .inl ((k 10), 8, .inr (.inr (.inr (.inr g10))))), ((a 3), .inr (3, [.ref (a 1), .ref (a 2), .int 0, .ref (a 20), .ref (a 21), .ref (a 22), .ref (a 23), .ref (a 24), .ref (a 25), .ref (a 26), .ref (a 27), .ref (a 28)])), ((a 20), .inl ((k 20), 8, .inl f20)), ((a 21), .inl ((k 21), 8, .inl f21)), ((a 22), .inl ((k 22), 8, .inl f22)), ((a 23), .inl ((k 23), 8, .inl f23))] H := hP
      have hD : va_D A [(h0, .inr (11, [.ref (a 1), .ref (a 2), .ref (a 3), .ref (a 4), .ref (a 5), .ref (a 6), .ref (a 7), .int 0, .ref (a 8), .int 0])), ((a 1), .inr (1, [.ref (a 9), .int 0, .ref (a 10), .int 0, .ref (a 11), .int 0, .ref (a 12), .int 0])), ((a 10), .inl ((k 10), 8, .inr (.inr (.inr (.inr g10))))), ((a 3), .inr (3, [.ref (a 1), .ref (a 2), .int 0, .ref (a 20), .ref (a 21), .ref (a 22), .ref (a 23), .ref (a 24), .ref (a 25), .ref (a 26), .ref (a 27), .ref (a 28)])), ((a 20), .inl ((k 20), 8, .inl f20)), ((a 21), .inl ((k 21), 8, .inl f21)), ((a 22), .inl ((k 22), 8, .inl f22)), ((a 23), .inl ((k 23), 8, .inl f23))] := hD
      have hK : va_K (dC, dI) vwCl [((k 10), .object RX4), ((k 20), .int), ((k 21), .int), ((k 22), .int), ((k 23), .int)] s := hK
      refine lv_if_eq (tgt := 47) hx hb dX11_hand_20 (by decide) (fun c_112 => absurd c_112 (by decide)) (fun c_112 => ?_)
      refine lv_iload_n hx hb dX11_hand_23 rfl (lv_at hl 3 rfl) ?_
      refine lv_iconst (v := 0) hx hb dX11_hand_24 (by decide) ?_
      refine lv_ldc hx hb hown (hts (.constant RX11 78 (65535)) (List.mem_cons_of_mem _ (List.mem_append_left _ (List.mem_of_getElem? (i := 3) rfl)))) dX11_hand_25 ?_
      have hPc := hP.sub (ws' := []) [] rfl
      have hDc := hD.sub (ws' := []) [] (by decide) rfl
      have hKc := hK.sub (tys' := []) [] rfl
      have hFc := va_free (wc := []) hD hS hA [] rfl
      refine va_calli (va_runS (As := [.int p2, .int 0, .int 65535]) (rest := []) ⟨hx, hb, hml, hown, hts⟩ (c_within l dC dI ad av H.size p2 0 65535 ) (va_cwS 3 hts (gi_3 (List.mem_cons_of_mem _ (List.mem_append_left _ (List.mem_of_getElem? (i := 0) rfl))) (List.mem_cons_of_mem _ (List.mem_append_left _ (List.mem_of_getElem? (i := 1) rfl))) (List.mem_cons_of_mem _ (List.mem_append_left _ (List.mem_of_getElem? (i := 2) rfl))) (fun _ hh => (List.mem_cons_of_mem _ (List.mem_append_right _ (List.mem_append_left _ hh)))) gd_c_within) rfl rfl rfl (by decide +kernel) ⟨Nat.le_of_ble_eq_true rfl, Nat.le_of_ble_eq_true rfl⟩) ⟨pr_blind, pr_use hPc hKc hDc hFc hS hM⟩ rfl rfl hl.1 rfl (lv_room (Nat.le_of_ble_eq_true rfl)) dX11_hand_27 ⟨Nat.le_of_ble_eq_true rfl, Nat.le_of_ble_eq_true rfl⟩) hS (fun q _ h => hFc q h) hFc (fun r_113 u t H locs ht hvm hw hB hz1 hk1 hS => ?_)
      refine W.widen (k := 0) (n := 0) (Nat.le_of_ble_eq_true rfl) (Nat.le_of_ble_eq_true rfl) ?_
      subst hw
      rcases hB with ⟨hre_114, hf_115, hf_116, hP1, hK1, hD1⟩ | ⟨hre_117, hf_118, hP1, hK1, hD1⟩
      · refine lq_top (v := 1) hre_114 ?_
        rw [ht] at hP1
        have hK1 := va_K.moved hvm.symm hK1
        obtain ⟨hP, hD⟩ := va_join (wr := [(h0, .inr (11, [.ref (a 1), .ref (a 2), .ref (a 3), .ref (a 4), .ref (a 5), .ref (a 6), .ref (a 7), .int 0, .ref (a 8), .int 0])), ((a 1), .inr (1, [.ref (a 9), .int 0, .ref (a 10), .int 0, .ref (a 11), .int 0, .ref (a 12), .int 0])), ((a 10), .inl ((k 10), 8, .inr (.inr (.inr (.inr g10))))), ((a 3), .inr (3, [.ref (a 1), .ref (a 2), .int 0, .ref (a 20), .ref (a 21), .ref (a 22), .ref (a 23), .ref (a 24), .ref (a 25), .ref (a 26), .ref (a 27), .ref (a 28)])), ((a 20), .inl ((k 20), 8, .inl f20)), ((a 21), .inl ((k 21), 8, .inl f21)), ((a 22), .inl ((k 22), 8, .inl f22)), ((a 23), .inl ((k 23), 8, .inl f23))]) (w1 := []) hP hD [] [0, 1, 2, 3, 4, 5, 6, 7] rfl rfl (by decide) (by decide) hk1 hFc hP1 hD1
        have hK := (hK.sub (tys' := [((k 10), .object RX4), ((k 20), .int), ((k 21), .int), ((k 22), .int), ((k 23), .int)]) [0, 1, 2, 3, 4] rfl).app hK1
        have hP : va_P (dC, dI) vwCl [(h0, .inr (11, [.ref (a 1), .ref (a 2), .ref (a 3), .ref (a 4), .ref (a 5), .ref (a 6), .ref (a 7), .int 0, .ref (a 8), .int 0])), ((a 1), .inr (1, [.ref (a 9), .int 0, .ref (a 10), .int 0, .ref (a 11), .int 0, .ref (a 12), .int 0])), ((a 10), .inl ((k 10), 8, .inr (.inr (.inr (.inr g10))))), ((a 3), .inr (3, [.ref (a 1), .ref (a 2), .int 0, .ref (a 20), .ref (a 21), .ref (a 22), .ref (a 23), .ref (a 24), .ref (a 25), .ref (a 26), .ref (a 27), .ref (a 28)])), ((a 20), .inl ((k 20), 8, .inl f20)), ((a 21), .inl ((k 21), 8, .inl f21)), ((a 22), .inl ((k 22), 8, .inl f22)), ((a 23), .inl ((k 23), 8, .inl f23))] H := hP
        have hD : va_D A [(h0, .inr (11, [.ref (a 1), .ref (a 2), .ref (a 3), .ref (a 4), .ref (a 5), .ref (a 6), .ref (a 7), .int 0, .ref (a 8), .int 0])), ((a 1), .inr (1, [.ref (a 9), .int 0, .ref (a 10), .int 0, .ref (a 11), .int 0, .ref (a 12), .int 0])), ((a 10), .inl ((k 10), 8, .inr (.inr (.inr (.inr g10))))), ((a 3), .inr (3, [.ref (a 1), .ref (a 2), .int 0, .ref (a 20), .ref (a 21), .ref (a 22), .ref (a 23), .ref (a 24), .ref (a 25), .ref (a 26), .ref (a 27), .ref (a 28)])), ((a 20), .inl ((k 20), 8, .inl f20)), ((a 21), .inl ((k 21), 8, .inl f21)), ((a 22), .inl ((k 22), 8, .inl f22)), ((a 23), .inl ((k 23), 8, .inl f23))] := hD
        have hK : va_K (dC, dI) vwCl [((k 10), .object RX4), ((k 20), .int), ((k 21), .int), ((k 22), .int), ((k 23), .int)] s := hK
        refine lv_if_eq (tgt := 47) hx hb dX11_hand_30 (by decide) (fun c_119 => absurd c_119 (by decide)) (fun c_119 => ?_)
        refine lv_iload hx hb dX11_hand_33 (lv_at hl 4 rfl) ?_
        refine lv_iconst (v := 0) hx hb dX11_hand_35 (by decide) ?_
        refine lv_iconst (v := 3) hx hb dX11_hand_36 (by decide) ?_
        have hPc := hP.sub (ws' := []) [] rfl
        have hDc := hD.sub (ws' := []) [] (by decide) rfl
        have hKc := hK.sub (tys' := []) [] rfl
        have hFc := va_free (wc := []) hD hS hA [] rfl
        refine va_calli (va_runS (As := [.int p3, .int 0, .int 3]) (rest := []) ⟨hx, hb, hml, hown, hts⟩ (c_within l dC dI ad av H.size p3 0 3 ) (va_cwS 3 hts (gi_3 (List.mem_cons_of_mem _ (List.mem_append_left _ (List.mem_of_getElem? (i := 0) rfl))) (List.mem_cons_of_mem _ (List.mem_append_left _ (List.mem_of_getElem? (i := 1) rfl))) (List.mem_cons_of_mem _ (List.mem_append_left _ (List.mem_of_getElem? (i := 2) rfl))) (fun _ hh => (List.mem_cons_of_mem _ (List.mem_append_right _ (List.mem_append_left _ hh)))) gd_c_within) rfl rfl rfl (by decide +kernel) ⟨Nat.le_of_ble_eq_true rfl, Nat.le_of_ble_eq_true rfl⟩) ⟨pr_blind, pr_use hPc hKc hDc hFc hS hM⟩ rfl rfl hl.1 rfl (lv_room (Nat.le_of_ble_eq_true rfl)) dX11_hand_37 ⟨Nat.le_of_ble_eq_true rfl, Nat.le_of_ble_eq_true rfl⟩) hS (fun q _ h => hFc q h) hFc (fun r_120 u t H locs ht hvm hw hB hz1 hk1 hS => ?_)
        refine W.widen (k := 0) (n := 0) (Nat.le_of_ble_eq_true rfl) (Nat.le_of_ble_eq_true rfl) ?_
        subst hw
        rcases hB with ⟨hre_121, hf_122, hf_123, hP1, hK1, hD1⟩ | ⟨hre_124, hf_125, hP1, hK1, hD1⟩
        · refine lq_top (v := 1) hre_121 ?_
          rw [ht] at hP1
          have hK1 := va_K.moved hvm.symm hK1
          obtain ⟨hP, hD⟩ := va_join (wr := [(h0, .inr (11, [.ref (a 1), .ref (a 2), .ref (a 3), .ref (a 4), .ref (a 5), .ref (a 6), .ref (a 7), .int 0, .ref (a 8), .int 0])), ((a 1), .inr (1, [.ref (a 9), .int 0, .ref (a 10), .int 0, .ref (a 11), .int 0, .ref (a 12), .int 0])), ((a 10), .inl ((k 10), 8, .inr (.inr (.inr (.inr g10))))), ((a 3), .inr (3, [.ref (a 1), .ref (a 2), .int 0, .ref (a 20), .ref (a 21), .ref (a 22), .ref (a 23), .ref (a 24), .ref (a 25), .ref (a 26), .ref (a 27), .ref (a 28)])), ((a 20), .inl ((k 20), 8, .inl f20)), ((a 21), .inl ((k 21), 8, .inl f21)), ((a 22), .inl ((k 22), 8, .inl f22)), ((a 23), .inl ((k 23), 8, .inl f23))]) (w1 := []) hP hD [] [0, 1, 2, 3, 4, 5, 6, 7] rfl rfl (by decide) (by decide) hk1 hFc hP1 hD1
          have hK := (hK.sub (tys' := [((k 10), .object RX4), ((k 20), .int), ((k 21), .int), ((k 22), .int), ((k 23), .int)]) [0, 1, 2, 3, 4] rfl).app hK1
          have hP : va_P (dC, dI) vwCl [(h0, .inr (11, [.ref (a 1), .ref (a 2), .ref (a 3), .ref (a 4), .ref (a 5), .ref (a 6), .ref (a 7), .int 0, .ref (a 8), .int 0])), ((a 1), .inr (1, [.ref (a 9), .int 0, .ref (a 10), .int 0, .ref (a 11), .int 0, .ref (a 12), .int 0])), ((a 10), .inl ((k 10), 8, .inr (.inr (.inr (.inr g10))))), ((a 3), .inr (3, [.ref (a 1), .ref (a 2), .int 0, .ref (a 20), .ref (a 21), .ref (a 22), .ref (a 23), .ref (a 24), .ref (a 25), .ref (a 26), .ref (a 27), .ref (a 28)])), ((a 20), .inl ((k 20), 8, .inl f20)), ((a 21), .inl ((k 21), 8, .inl f21)), ((a 22), .inl ((k 22), 8, .inl f22)), ((a 23), .inl ((k 23), 8, .inl f23))] H := hP
          have hD : va_D A [(h0, .inr (11, [.ref (a 1), .ref (a 2), .ref (a 3), .ref (a 4), .ref (a 5), .ref (a 6), .ref (a 7), .int 0, .ref (a 8), .int 0])), ((a 1), .inr (1, [.ref (a 9), .int 0, .ref (a 10), .int 0, .ref (a 11), .int 0, .ref (a 12), .int 0])), ((a 10), .inl ((k 10), 8, .inr (.inr (.inr (.inr g10))))), ((a 3), .inr (3, [.ref (a 1), .ref (a 2), .int 0, .ref (a 20), .ref (a 21), .ref (a 22), .ref (a 23), .ref (a 24), .ref (a 25), .ref (a 26), .ref (a 27), .ref (a 28)])), ((a 20), .inl ((k 20), 8, .inl f20)), ((a 21), .inl ((k 21), 8, .inl f21)), ((a 22), .inl ((k 22), 8, .inl f22)), ((a 23), .inl ((k 23), 8, .inl f23))] := hD
          have hK : va_K (dC, dI) vwCl [((k 10), .object RX4), ((k 20), .int), ((k 21), .int), ((k 22), .int), ((k 23), .int)] s := hK
          refine lv_if_eq (tgt := 47) hx hb dX11_hand_40 (by decide) (fun c_126 => absurd c_126 (by decide)) (fun c_126 => ?_)
          refine lv_iconst (v := 1) hx hb dX11_hand_43 (by decide) ?_
          refine lv_goto (tgt := 48) hx hb dX11_hand_44 (by decide) ?_
          refine lv_istore (lv' := [(5, .int 1), (0, .ref h0), (1, .int p0), (2, .int p1), (3, .int p2), (4, .int p3)]) hx hb dX11_hand_48 hl (by decide) rfl (fun ls hl => ?_)
          refine lv_iload hx hb dX11_hand_50 (lv_at hl 0 rfl) ?_
          refine lv_if_eq (tgt := 67) hx hb dX11_hand_52 (by decide) (fun c_127 => absurd c_127 (by decide)) (fun c_127 => ?_)
          refine lv_aload_n hx hb dX11_hand_55 rfl (lv_at hl 1 rfl) ?_
          refine va_get (D := (dC, dI)) (ci := 11) (v := .ref (a 1)) (C := RX11) (T := TX11) (N := 10) hx hb hts (fun _ hh => (List.mem_cons_of_mem _ (List.mem_append_right _ (List.mem_append_right _ (List.mem_append_left _ hh))))) hown hK hP 0 rfl rfl 0 (by decide) (hts (.fieldLink RX11 10 "TypingPool" "book" "LTypingPool$Book;") (List.mem_cons_of_mem _ (List.mem_append_left _ (List.mem_of_getElem? (i := 4) rfl)))) (fun _ h9 => h9) rfl dX11_hand_56 ?_
          refine va_get (D := (dC, dI)) (ci := 1) (v := .int 0) (C := RX1) (T := TX1) (N := 8) hx hb hts (fun _ hh => (List.mem_cons_of_mem _ (List.mem_append_right _ (List.mem_append_right _ (List.mem_append_right _ (List.mem_append_left _ hh)))))) hown hK hP 1 rfl rfl 3 (by decide) (hts (.fieldLink RX11 79 "TypingPool$Book" "handCount" "I") (List.mem_cons_of_mem _ (List.mem_append_left _ (List.mem_of_getElem? (i := 5) rfl)))) (fun _ h9 => h9) rfl dX11_hand_59 ?_
          refine lv_bipush (v := 8) hx hb dX11_hand_62 (by decide) ?_
          refine lv_icmp_lt (tgt := 69) hx hb dX11_hand_64 (by decide) (fun c_128 => ?_) (fun c_128 => absurd c_128 (fun z => z (by decide)))
          refine lv_aload_n hx hb dX11_hand_69 rfl (lv_at hl 1 rfl) ?_
          refine va_get (D := (dC, dI)) (ci := 11) (v := .ref (a 1)) (C := RX11) (T := TX11) (N := 10) hx hb hts (fun _ hh => (List.mem_cons_of_mem _ (List.mem_append_right _ (List.mem_append_right _ (List.mem_append_left _ hh))))) hown hK hP 0 rfl rfl 0 (by decide) (hts (.fieldLink RX11 10 "TypingPool" "book" "LTypingPool$Book;") (List.mem_cons_of_mem _ (List.mem_append_left _ (List.mem_of_getElem? (i := 4) rfl)))) (fun _ h9 => h9) rfl dX11_hand_70 ?_
          refine va_get (D := (dC, dI)) (ci := 1) (v := .int 0) (C := RX1) (T := TX1) (N := 8) hx hb hts (fun _ hh => (List.mem_cons_of_mem _ (List.mem_append_right _ (List.mem_append_right _ (List.mem_append_right _ (List.mem_append_left _ hh)))))) hown hK hP 1 rfl rfl 3 (by decide) (hts (.fieldLink RX11 79 "TypingPool$Book" "handCount" "I") (List.mem_cons_of_mem _ (List.mem_append_left _ (List.mem_of_getElem? (i := 5) rfl)))) (fun _ h9 => h9) rfl dX11_hand_73 ?_
          refine lv_istore (lv' := [(6, .int 0), (5, .int 1), (0, .ref h0), (1, .int p0), (2, .int p1), (3, .int p2), (4, .int p3)]) hx hb dX11_hand_76 hl (by decide) rfl (fun ls hl => ?_)
          refine lv_aload_n hx hb dX11_hand_78 rfl (lv_at hl 2 rfl) ?_
          refine va_get (D := (dC, dI)) (ci := 11) (v := .ref (a 1)) (C := RX11) (T := TX11) (N := 10) hx hb hts (fun _ hh => (List.mem_cons_of_mem _ (List.mem_append_right _ (List.mem_append_right _ (List.mem_append_left _ hh))))) hown hK hP 0 rfl rfl 0 (by decide) (hts (.fieldLink RX11 10 "TypingPool" "book" "LTypingPool$Book;") (List.mem_cons_of_mem _ (List.mem_append_left _ (List.mem_of_getElem? (i := 4) rfl)))) (fun _ h9 => h9) rfl dX11_hand_79 ?_
          refine va_get (D := (dC, dI)) (ci := 1) (v := .ref (a 10)) (C := RX1) (T := TX1) (N := 8) hx hb hts (fun _ hh => (List.mem_cons_of_mem _ (List.mem_append_right _ (List.mem_append_right _ (List.mem_append_right _ (List.mem_append_left _ hh)))))) hown hK hP 1 rfl rfl 2 (by decide) (hts (.fieldLink RX11 82 "TypingPool$Book" "hands" "[LTypingPool$Hand;") (List.mem_cons_of_mem _ (List.mem_append_left _ (List.mem_of_getElem? (i := 6) rfl)))) (fun _ h9 => h9) rfl dX11_hand_82 ?_
          refine lv_iload hx hb dX11_hand_85 (lv_at hl 0 rfl) ?_
          refine va_new (ci := 4) (fs := [.int 0, .int 0, .int 0]) (C := RX4) (T := TX4) (N := 3) hx hb hts (fun _ hh => (List.mem_cons_of_mem _ (List.mem_append_right _ (List.mem_append_right _ (List.mem_append_right _ (List.mem_append_right _ (List.mem_append_left _ hh))))))) tyX4 tyX4_ok hown (hts (.classLink RX11 86 RX4) (List.mem_cons_of_mem _ (List.mem_append_left _ (List.mem_of_getElem? (i := 7) rfl)))) (hts (.instantiable RX4 3) (List.mem_cons_of_mem _ (List.mem_append_left _ (List.mem_of_getElem? (i := 8) rfl)))) (hts (.initialized RX4) (List.mem_cons_of_mem _ (List.mem_append_left _ (List.mem_of_getElem? (i := 9) rfl)))) hK hP hD hS hA rfl (fun j hj => by rcases (show j = 0 ∨ j = 1 ∨ j = 2 by omega) with rfl | rfl | rfl <;> rfl) (Nat.le_of_ble_eq_true rfl) (Nat.le_of_ble_eq_true rfl) dX11_hand_87 (fun q_129 H hP hD hS => ?_)
          refine W.widen (k := 1) (n := 3) (Nat.le_of_ble_eq_true rfl) (Nat.le_of_ble_eq_true rfl) ?_
          have hP : va_P (dC, dI) vwCl [(h0, .inr (11, [.ref (a 1), .ref (a 2), .ref (a 3), .ref (a 4), .ref (a 5), .ref (a 6), .ref (a 7), .int 0, .ref (a 8), .int 0])), ((a 1), .inr (1, [.ref (a 9), .int 0, .ref (a 10), .int 0, .ref (a 11), .int 0, .ref (a 12), .int 0])), ((a 10), .inl ((k 10), 8, .inr (.inr (.inr (.inr g10))))), ((a 3), .inr (3, [.ref (a 1), .ref (a 2), .int 0, .ref (a 20), .ref (a 21), .ref (a 22), .ref (a 23), .ref (a 24), .ref (a 25), .ref (a 26), .ref (a 27), .ref (a 28)])), ((a 20), .inl ((k 20), 8, .inl f20)), ((a 21), .inl ((k 21), 8, .inl f21)), ((a 22), .inl ((k 22), 8, .inl f22)), ((a 23), .inl ((k 23), 8, .inl f23)), (q_129, .inr (4, [.int 0, .int 0, .int 0]))] H := hP
          have hD : va_D A [(h0, .inr (11, [.ref (a 1), .ref (a 2), .ref (a 3), .ref (a 4), .ref (a 5), .ref (a 6), .ref (a 7), .int 0, .ref (a 8), .int 0])), ((a 1), .inr (1, [.ref (a 9), .int 0, .ref (a 10), .int 0, .ref (a 11), .int 0, .ref (a 12), .int 0])), ((a 10), .inl ((k 10), 8, .inr (.inr (.inr (.inr g10))))), ((a 3), .inr (3, [.ref (a 1), .ref (a 2), .int 0, .ref (a 20), .ref (a 21), .ref (a 22), .ref (a 23), .ref (a 24), .ref (a 25), .ref (a 26), .ref (a 27), .ref (a 28)])), ((a 20), .inl ((k 20), 8, .inl f20)), ((a 21), .inl ((k 21), 8, .inl f21)), ((a 22), .inl ((k 22), 8, .inl f22)), ((a 23), .inl ((k 23), 8, .inl f23)), (q_129, .inr (4, [.int 0, .int 0, .int 0]))] := hD
          refine lv_dup hx hb dX11_hand_90 rfl ?_
          refine lv_iload_n hx hb dX11_hand_91 rfl (lv_at hl 3 rfl) ?_
          refine lv_iload_n hx hb dX11_hand_92 rfl (lv_at hl 4 rfl) ?_
          refine lv_iload hx hb dX11_hand_93 (lv_at hl 6 rfl) ?_
          have hPc := hP.sub (ws' := [(q_129, .inr (4, [.int 0, .int 0, .int 0]))]) [8] rfl
          have hDc := hD.sub (ws' := [(q_129, .inr (4, [.int 0, .int 0, .int 0]))]) [8] (by decide) rfl
          have hKc := hK.sub (tys' := []) [] rfl
          have hFc := va_free (wc := [(q_129, .inr (4, [.int 0, .int 0, .int 0]))]) hD hS hA [8] rfl
          refine va_callv (va_runI (As := [.int p0, .int p1, .int p3]) (rest := [.ref q_129, .int 0, .ref (a 10)]) ⟨hx, hb, hml, hown, hts⟩ (c_Hand_init l dC dI ad av H.size q_129 p0 p1 p3 ) (cwI 3 hts (gi_0  (fun _ hh => (List.mem_cons_of_mem _ (List.mem_append_right _ (List.mem_append_right _ (List.mem_append_right _ (List.mem_append_right _ (List.mem_append_right _ (List.mem_append_left _ hh)))))))) gd_c_Hand_init) rfl rfl rfl (hts (.initialized RX4) (List.mem_cons_of_mem _ (List.mem_append_left _ (List.mem_of_getElem? (i := 9) rfl)))) (hts (.methodLink RX11 88 yX4_init) (List.mem_cons_of_mem _ (List.mem_append_left _ (List.mem_of_getElem? (i := 11) rfl)))) (hts (.instanceMethod yX4_init) (List.mem_cons_of_mem _ (List.mem_append_left _ (List.mem_of_getElem? (i := 10) rfl)))) rfl (by decide +kernel) ⟨Nat.le_of_ble_eq_true rfl, Nat.le_of_ble_eq_true rfl⟩) ⟨pr_blind, pr_use hPc hKc hDc hFc hS hM⟩ rfl rfl hl.1 rfl (lv_room (Nat.le_of_ble_eq_true rfl)) dX11_hand_95 ⟨Nat.le_of_ble_eq_true rfl, Nat.le_of_ble_eq_true rfl⟩) hS (fun q _ h => hFc q h) hFc (fun u t H locs ht hvm hw hB hz1 hk1 hS => ?_)
          refine W.widen (k := 1) (n := 3) (Nat.le_of_ble_eq_true rfl) (Nat.le_of_ble_eq_true rfl) ?_
          obtain ⟨hP1, hK1, hD1⟩ := hB
          rw [ht] at hP1
          have hK1 := va_K.moved hvm.symm hK1
          obtain ⟨hP, hD⟩ := va_join (wr := [(h0, .inr (11, [.ref (a 1), .ref (a 2), .ref (a 3), .ref (a 4), .ref (a 5), .ref (a 6), .ref (a 7), .int 0, .ref (a 8), .int 0])), ((a 1), .inr (1, [.ref (a 9), .int 0, .ref (a 10), .int 0, .ref (a 11), .int 0, .ref (a 12), .int 0])), ((a 10), .inl ((k 10), 8, .inr (.inr (.inr (.inr g10))))), ((a 3), .inr (3, [.ref (a 1), .ref (a 2), .int 0, .ref (a 20), .ref (a 21), .ref (a 22), .ref (a 23), .ref (a 24), .ref (a 25), .ref (a 26), .ref (a 27), .ref (a 28)])), ((a 20), .inl ((k 20), 8, .inl f20)), ((a 21), .inl ((k 21), 8, .inl f21)), ((a 22), .inl ((k 22), 8, .inl f22)), ((a 23), .inl ((k 23), 8, .inl f23))]) (w1 := [(q_129, .inr (4, [.int p0, .int p1, .int p3]))]) hP hD [8] [0, 1, 2, 3, 4, 5, 6, 7] rfl rfl (by decide) (by decide) hk1 hFc hP1 hD1
          have hK := (hK.sub (tys' := [((k 10), .object RX4), ((k 20), .int), ((k 21), .int), ((k 22), .int), ((k 23), .int)]) [0, 1, 2, 3, 4] rfl).app hK1
          have hP : va_P (dC, dI) vwCl [(h0, .inr (11, [.ref (a 1), .ref (a 2), .ref (a 3), .ref (a 4), .ref (a 5), .ref (a 6), .ref (a 7), .int 0, .ref (a 8), .int 0])), ((a 1), .inr (1, [.ref (a 9), .int 0, .ref (a 10), .int 0, .ref (a 11), .int 0, .ref (a 12), .int 0])), ((a 10), .inl ((k 10), 8, .inr (.inr (.inr (.inr g10))))), ((a 3), .inr (3, [.ref (a 1), .ref (a 2), .int 0, .ref (a 20), .ref (a 21), .ref (a 22), .ref (a 23), .ref (a 24), .ref (a 25), .ref (a 26), .ref (a 27), .ref (a 28)])), ((a 20), .inl ((k 20), 8, .inl f20)), ((a 21), .inl ((k 21), 8, .inl f21)), ((a 22), .inl ((k 22), 8, .inl f22)), ((a 23), .inl ((k 23), 8, .inl f23)), (q_129, .inr (4, [.int p0, .int p1, .int p3]))] H := hP
          have hD : va_D A [(h0, .inr (11, [.ref (a 1), .ref (a 2), .ref (a 3), .ref (a 4), .ref (a 5), .ref (a 6), .ref (a 7), .int 0, .ref (a 8), .int 0])), ((a 1), .inr (1, [.ref (a 9), .int 0, .ref (a 10), .int 0, .ref (a 11), .int 0, .ref (a 12), .int 0])), ((a 10), .inl ((k 10), 8, .inr (.inr (.inr (.inr g10))))), ((a 3), .inr (3, [.ref (a 1), .ref (a 2), .int 0, .ref (a 20), .ref (a 21), .ref (a 22), .ref (a 23), .ref (a 24), .ref (a 25), .ref (a 26), .ref (a 27), .ref (a 28)])), ((a 20), .inl ((k 20), 8, .inl f20)), ((a 21), .inl ((k 21), 8, .inl f21)), ((a 22), .inl ((k 22), 8, .inl f22)), ((a 23), .inl ((k 23), 8, .inl f23)), (q_129, .inr (4, [.int p0, .int p1, .int p3]))] := hD
          have hK : va_K (dC, dI) vwCl [((k 10), .object RX4), ((k 20), .int), ((k 21), .int), ((k 22), .int), ((k 23), .int)] s := hK
          refine va_astq hx hb hK hP hD hS 2 0 8 4 rfl rfl rfl rfl (by unfold vp_in; decide) dX11_hand_98 (fun H locs hP hD hS => ?_)
          obtain ⟨g_132, eg_132⟩ : ∃ y : Nat → Option Nat, y = va_up g10 (0 : Int32).toNatClampNeg (some q_129) := ⟨_, rfl⟩
          have hP : va_P (dC, dI) vwCl [(h0, .inr (11, [.ref (a 1), .ref (a 2), .ref (a 3), .ref (a 4), .ref (a 5), .ref (a 6), .ref (a 7), .int 0, .ref (a 8), .int 0])), ((a 1), .inr (1, [.ref (a 9), .int 0, .ref (a 10), .int 0, .ref (a 11), .int 0, .ref (a 12), .int 0])), ((a 10), .inl ((k 10), 8, .inr (.inr (.inr (.inr g_132))))), ((a 3), .inr (3, [.ref (a 1), .ref (a 2), .int 0, .ref (a 20), .ref (a 21), .ref (a 22), .ref (a 23), .ref (a 24), .ref (a 25), .ref (a 26), .ref (a 27), .ref (a 28)])), ((a 20), .inl ((k 20), 8, .inl f20)), ((a 21), .inl ((k 21), 8, .inl f21)), ((a 22), .inl ((k 22), 8, .inl f22)), ((a 23), .inl ((k 23), 8, .inl f23)), (q_129, .inr (4, [.int p0, .int p1, .int p3]))] H := by rw [eg_132]; exact hP
          have hD : va_D A [(h0, .inr (11, [.ref (a 1), .ref (a 2), .ref (a 3), .ref (a 4), .ref (a 5), .ref (a 6), .ref (a 7), .int 0, .ref (a 8), .int 0])), ((a 1), .inr (1, [.ref (a 9), .int 0, .ref (a 10), .int 0, .ref (a 11), .int 0, .ref (a 12), .int 0])), ((a 10), .inl ((k 10), 8, .inr (.inr (.inr (.inr g_132))))), ((a 3), .inr (3, [.ref (a 1), .ref (a 2), .int 0, .ref (a 20), .ref (a 21), .ref (a 22), .ref (a 23), .ref (a 24), .ref (a 25), .ref (a 26), .ref (a 27), .ref (a 28)])), ((a 20), .inl ((k 20), 8, .inl f20)), ((a 21), .inl ((k 21), 8, .inl f21)), ((a 22), .inl ((k 22), 8, .inl f22)), ((a 23), .inl ((k 23), 8, .inl f23)), (q_129, .inr (4, [.int p0, .int p1, .int p3]))] := by rw [eg_132]; exact hD
          refine lv_aload_n hx hb dX11_hand_99 rfl (lv_at hl 2 rfl) ?_
          refine va_get (D := (dC, dI)) (ci := 11) (v := .ref (a 1)) (C := RX11) (T := TX11) (N := 10) hx hb hts (fun _ hh => (List.mem_cons_of_mem _ (List.mem_append_right _ (List.mem_append_right _ (List.mem_append_left _ hh))))) hown hK hP 0 rfl rfl 0 (by decide) (hts (.fieldLink RX11 10 "TypingPool" "book" "LTypingPool$Book;") (List.mem_cons_of_mem _ (List.mem_append_left _ (List.mem_of_getElem? (i := 4) rfl)))) (fun _ h9 => h9) rfl dX11_hand_100 ?_
          refine lv_dup hx hb dX11_hand_103 rfl ?_
          refine va_get (D := (dC, dI)) (ci := 1) (v := .int 0) (C := RX1) (T := TX1) (N := 8) hx hb hts (fun _ hh => (List.mem_cons_of_mem _ (List.mem_append_right _ (List.mem_append_right _ (List.mem_append_right _ (List.mem_append_left _ hh)))))) hown hK hP 1 rfl rfl 3 (by decide) (hts (.fieldLink RX11 79 "TypingPool$Book" "handCount" "I") (List.mem_cons_of_mem _ (List.mem_append_left _ (List.mem_of_getElem? (i := 5) rfl)))) (fun _ h9 => h9) rfl dX11_hand_104 ?_
          refine lv_iconst (v := 1) hx hb dX11_hand_107 (by decide) ?_
          refine lv_iadd hx hb dX11_hand_108 ?_
          refine lq_top (v := 1) (by decide) ?_
          refine va_put (D := (dC, dI)) (ci := 1) (v := .int 1) (ty := .int) (C := RX1) (T := TX1) (N := 8) hx hb hts (fun _ hh => (List.mem_cons_of_mem _ (List.mem_append_right _ (List.mem_append_right _ (List.mem_append_right _ (List.mem_append_left _ hh)))))) tyX1 tyX1_ok nmX1 hown hK hP hD hS 1 rfl rfl 3 (by decide) (hts (.fieldLink RX11 79 "TypingPool$Book" "handCount" "I") (List.mem_cons_of_mem _ (List.mem_append_left _ (List.mem_of_getElem? (i := 5) rfl)))) (fun _ h9 => h9) rfl (tyX1_ok 3 (by decide)) rfl rfl (Nat.le_of_ble_eq_true rfl) dX11_hand_109 (fun H locs hP hD hS => ?_)
          have hP : va_P (dC, dI) vwCl [(h0, .inr (11, [.ref (a 1), .ref (a 2), .ref (a 3), .ref (a 4), .ref (a 5), .ref (a 6), .ref (a 7), .int 0, .ref (a 8), .int 0])), ((a 1), .inr (1, [.ref (a 9), .int 0, .ref (a 10), .int 1, .ref (a 11), .int 0, .ref (a 12), .int 0])), ((a 10), .inl ((k 10), 8, .inr (.inr (.inr (.inr g_132))))), ((a 3), .inr (3, [.ref (a 1), .ref (a 2), .int 0, .ref (a 20), .ref (a 21), .ref (a 22), .ref (a 23), .ref (a 24), .ref (a 25), .ref (a 26), .ref (a 27), .ref (a 28)])), ((a 20), .inl ((k 20), 8, .inl f20)), ((a 21), .inl ((k 21), 8, .inl f21)), ((a 22), .inl ((k 22), 8, .inl f22)), ((a 23), .inl ((k 23), 8, .inl f23)), (q_129, .inr (4, [.int p0, .int p1, .int p3]))] H := hP
          have hD : va_D A [(h0, .inr (11, [.ref (a 1), .ref (a 2), .ref (a 3), .ref (a 4), .ref (a 5), .ref (a 6), .ref (a 7), .int 0, .ref (a 8), .int 0])), ((a 1), .inr (1, [.ref (a 9), .int 0, .ref (a 10), .int 1, .ref (a 11), .int 0, .ref (a 12), .int 0])), ((a 10), .inl ((k 10), 8, .inr (.inr (.inr (.inr g_132))))), ((a 3), .inr (3, [.ref (a 1), .ref (a 2), .int 0, .ref (a 20), .ref (a 21), .ref (a 22), .ref (a 23), .ref (a 24), .ref (a 25), .ref (a 26), .ref (a 27), .ref (a 28)])), ((a 20), .inl ((k 20), 8, .inl f20)), ((a 21), .inl ((k 21), 8, .inl f21)), ((a 22), .inl ((k 22), 8, .inl f22)), ((a 23), .inl ((k 23), 8, .inl f23)), (q_129, .inr (4, [.int p0, .int p1, .int p3]))] := hD
          refine lv_aload_n hx hb dX11_hand_112 rfl (lv_at hl 2 rfl) ?_
          refine va_get (D := (dC, dI)) (ci := 11) (v := .ref (a 3)) (C := RX11) (T := TX11) (N := 10) hx hb hts (fun _ hh => (List.mem_cons_of_mem _ (List.mem_append_right _ (List.mem_append_right _ (List.mem_append_left _ hh))))) hown hK hP 0 rfl rfl 2 (by decide) (hts (.fieldLink RX11 28 "TypingPool" "floor" "LTypingPool$Floor;") (List.mem_cons_of_mem _ (List.mem_append_left _ (List.mem_of_getElem? (i := 12) rfl)))) (fun _ h9 => h9) rfl dX11_hand_113 ?_
          refine lv_iload hx hb dX11_hand_116 (lv_at hl 0 rfl) ?_
          refine lv_iload_n hx hb dX11_hand_118 rfl (lv_at hl 5 rfl) ?_
          have hPc := hP.sub (ws' := [((a 3), .inr (3, [.ref (a 1), .ref (a 2), .int 0, .ref (a 20), .ref (a 21), .ref (a 22), .ref (a 23), .ref (a 24), .ref (a 25), .ref (a 26), .ref (a 27), .ref (a 28)])), ((a 20), .inl ((k 20), 8, .inl f20)), ((a 21), .inl ((k 21), 8, .inl f21)), ((a 22), .inl ((k 22), 8, .inl f22)), ((a 23), .inl ((k 23), 8, .inl f23))]) [3, 4, 5, 6, 7] rfl
          have hDc := hD.sub (ws' := [((a 3), .inr (3, [.ref (a 1), .ref (a 2), .int 0, .ref (a 20), .ref (a 21), .ref (a 22), .ref (a 23), .ref (a 24), .ref (a 25), .ref (a 26), .ref (a 27), .ref (a 28)])), ((a 20), .inl ((k 20), 8, .inl f20)), ((a 21), .inl ((k 21), 8, .inl f21)), ((a 22), .inl ((k 22), 8, .inl f22)), ((a 23), .inl ((k 23), 8, .inl f23))]) [3, 4, 5, 6, 7] (by decide) rfl
          have hKc := hK.sub (tys' := [((k 20), .int), ((k 21), .int), ((k 22), .int), ((k 23), .int)]) [1, 2, 3, 4] rfl
          have hFc := va_free (wc := [((a 3), .inr (3, [.ref (a 1), .ref (a 2), .int 0, .ref (a 20), .ref (a 21), .ref (a 22), .ref (a 23), .ref (a 24), .ref (a 25), .ref (a 26), .ref (a 27), .ref (a 28)])), ((a 20), .inl ((k 20), 8, .inl f20)), ((a 21), .inl ((k 21), 8, .inl f21)), ((a 22), .inl ((k 22), 8, .inl f22)), ((a 23), .inl ((k 23), 8, .inl f23))]) hD hS hA [3, 4, 5, 6, 7] rfl
          refine va_callv (va_runV (As := [.int 0, .int p2]) (rest := []) ⟨hx, hb, hml, hown, hts⟩ (c_openHand0 l dC dI ad av H.size (a 3) (a 1) (a 2) (a 20) (a 21) (a 22) (a 23) (a 24) (a 25) (a 26) (a 27) (a 28) (k 20) (k 21) (k 22) (k 23) f20 f21 f22 f23 p2 ) (cwV 2 hts (gi_4 (List.mem_cons_of_mem _ (List.mem_append_left _ (List.mem_of_getElem? (i := 13) rfl))) (List.mem_cons_of_mem _ (List.mem_append_left _ (List.mem_of_getElem? (i := 14) rfl))) (List.mem_cons_of_mem _ (List.mem_append_left _ (List.mem_of_getElem? (i := 15) rfl))) (List.mem_cons_of_mem _ (List.mem_append_left _ (List.mem_of_getElem? (i := 16) rfl))) (fun _ hh => (List.mem_cons_of_mem _ (List.mem_append_right _ (List.mem_append_right _ (List.mem_append_right _ (List.mem_append_right _ (List.mem_append_right _ (List.mem_append_right _ (List.mem_append_left _ hh))))))))) gd_c_openHand0) rfl rfl rfl (by decide +kernel) ⟨Nat.le_of_ble_eq_true rfl, Nat.le_of_ble_eq_true rfl⟩) ⟨pr_blind, va_recv hKc hPc (ci := 3) (q0 := 0) rfl rfl, pr_use hPc hKc hDc hFc hS hM⟩ rfl rfl hl.1 rfl (lv_room (Nat.le_of_ble_eq_true rfl)) dX11_hand_119 ⟨Nat.le_of_ble_eq_true rfl, Nat.le_of_ble_eq_true rfl⟩) hS (fun q _ h => hFc q h) hFc (fun u t H locs ht hvm hw hB hz1 hk1 hS => ?_)
          refine W.widen (k := 1) (n := 3) (Nat.le_of_ble_eq_true rfl) (Nat.le_of_ble_eq_true rfl) ?_
          clear hB
          obtain ⟨hP, hD⟩ := va_join (wr := [(h0, .inr (11, [.ref (a 1), .ref (a 2), .ref (a 3), .ref (a 4), .ref (a 5), .ref (a 6), .ref (a 7), .int 0, .ref (a 8), .int 0])), ((a 1), .inr (1, [.ref (a 9), .int 0, .ref (a 10), .int 1, .ref (a 11), .int 0, .ref (a 12), .int 0])), ((a 10), .inl ((k 10), 8, .inr (.inr (.inr (.inr g_132))))), (q_129, .inr (4, [.int p0, .int p1, .int p3]))]) (w1 := []) hP hD [3, 4, 5, 6, 7] [0, 1, 2, 8] rfl rfl (by decide) (by decide) hk1 hFc (fun k q h => by simp at h) ⟨fun i j p q h => by simp at h, fun k q h => by simp at h⟩
          have hK := (hK.sub (tys' := [((k 10), .object RX4)]) [0] rfl)
          have hP : va_P (dC, dI) vwCl [(h0, .inr (11, [.ref (a 1), .ref (a 2), .ref (a 3), .ref (a 4), .ref (a 5), .ref (a 6), .ref (a 7), .int 0, .ref (a 8), .int 0])), ((a 1), .inr (1, [.ref (a 9), .int 0, .ref (a 10), .int 1, .ref (a 11), .int 0, .ref (a 12), .int 0])), ((a 10), .inl ((k 10), 8, .inr (.inr (.inr (.inr g_132))))), (q_129, .inr (4, [.int p0, .int p1, .int p3]))] H := hP
          have hD : va_D A [(h0, .inr (11, [.ref (a 1), .ref (a 2), .ref (a 3), .ref (a 4), .ref (a 5), .ref (a 6), .ref (a 7), .int 0, .ref (a 8), .int 0])), ((a 1), .inr (1, [.ref (a 9), .int 0, .ref (a 10), .int 1, .ref (a 11), .int 0, .ref (a 12), .int 0])), ((a 10), .inl ((k 10), 8, .inr (.inr (.inr (.inr g_132))))), (q_129, .inr (4, [.int p0, .int p1, .int p3]))] := hD
          have hK : va_K (dC, dI) vwCl [((k 10), .object RX4)] s := hK
          refine lv_iload hx hb dX11_hand_122 (lv_at hl 0 rfl) ?_
          exact W.iret (v := 0) hx hb hr (fun t ht hW => ⟨⟨0, 0, rfl, rfl, (if_pos ⟨⟨hf_101, hf_102⟩, ⟨⟨hf_108, hf_109⟩, ⟨⟨hf_115, hf_116⟩, ⟨hf_122, hf_123⟩⟩⟩⟩).symm⟩, hS.F ht⟩) hS.2.2 dX11_hand_124
        · refine lq_top (v := 0) hre_124 ?_
          rw [ht] at hP1
          have hK1 := va_K.moved hvm.symm hK1
          obtain ⟨hP, hD⟩ := va_join (wr := [(h0, .inr (11, [.ref (a 1), .ref (a 2), .ref (a 3), .ref (a 4), .ref (a 5), .ref (a 6), .ref (a 7), .int 0, .ref (a 8), .int 0])), ((a 1), .inr (1, [.ref (a 9), .int 0, .ref (a 10), .int 0, .ref (a 11), .int 0, .ref (a 12), .int 0])), ((a 10), .inl ((k 10), 8, .inr (.inr (.inr (.inr g10))))), ((a 3), .inr (3, [.ref (a 1), .ref (a 2), .int 0, .ref (a 20), .ref (a 21), .ref (a 22), .ref (a 23), .ref (a 24), .ref (a 25), .ref (a 26), .ref (a 27), .ref (a 28)])), ((a 20), .inl ((k 20), 8, .inl f20)), ((a 21), .inl ((k 21), 8, .inl f21)), ((a 22), .inl ((k 22), 8, .inl f22)), ((a 23), .inl ((k 23), 8, .inl f23))]) (w1 := []) hP hD [] [0, 1, 2, 3, 4, 5, 6, 7] rfl rfl (by decide) (by decide) hk1 hFc hP1 hD1
          have hK := (hK.sub (tys' := [((k 10), .object RX4), ((k 20), .int), ((k 21), .int), ((k 22), .int), ((k 23), .int)]) [0, 1, 2, 3, 4] rfl).app hK1
          have hP : va_P (dC, dI) vwCl [(h0, .inr (11, [.ref (a 1), .ref (a 2), .ref (a 3), .ref (a 4), .ref (a 5), .ref (a 6), .ref (a 7), .int 0, .ref (a 8), .int 0])), ((a 1), .inr (1, [.ref (a 9), .int 0, .ref (a 10), .int 0, .ref (a 11), .int 0, .ref (a 12), .int 0])), ((a 10), .inl ((k 10), 8, .inr (.inr (.inr (.inr g10))))), ((a 3), .inr (3, [.ref (a 1), .ref (a 2), .int 0, .ref (a 20), .ref (a 21), .ref (a 22), .ref (a 23), .ref (a 24), .ref (a 25), .ref (a 26), .ref (a 27), .ref (a 28)])), ((a 20), .inl ((k 20), 8, .inl f20)), ((a 21), .inl ((k 21), 8, .inl f21)), ((a 22), .inl ((k 22), 8, .inl f22)), ((a 23), .inl ((k 23), 8, .inl f23))] H := hP
          have hD : va_D A [(h0, .inr (11, [.ref (a 1), .ref (a 2), .ref (a 3), .ref (a 4), .ref (a 5), .ref (a 6), .ref (a 7), .int 0, .ref (a 8), .int 0])), ((a 1), .inr (1, [.ref (a 9), .int 0, .ref (a 10), .int 0, .ref (a 11), .int 0, .ref (a 12), .int 0])), ((a 10), .inl ((k 10), 8, .inr (.inr (.inr (.inr g10))))), ((a 3), .inr (3, [.ref (a 1), .ref (a 2), .int 0, .ref (a 20), .ref (a 21), .ref (a 22), .ref (a 23), .ref (a 24), .ref (a 25), .ref (a 26), .ref (a 27), .ref (a 28)])), ((a 20), .inl ((k 20), 8, .inl f20)), ((a 21), .inl ((k 21), 8, .inl f21)), ((a 22), .inl ((k 22), 8, .inl f22)), ((a 23), .inl ((k 23), 8, .inl f23))] := hD
          have hK : va_K (dC, dI) vwCl [((k 10), .object RX4), ((k 20), .int), ((k 21), .int), ((k 22), .int), ((k 23), .int)] s := hK
          refine lv_if_eq (tgt := 47) hx hb dX11_hand_40 (by decide) (fun c_135 => ?_) (fun c_135 => absurd c_135 (fun z => z (by decide)))
          refine lv_iconst (v := 0) hx hb dX11_hand_47 (by decide) ?_
          refine lv_istore (lv' := [(5, .int 0), (0, .ref h0), (1, .int p0), (2, .int p1), (3, .int p2), (4, .int p3)]) hx hb dX11_hand_48 hl (by decide) rfl (fun ls hl => ?_)
          refine lv_iload hx hb dX11_hand_50 (lv_at hl 0 rfl) ?_
          refine lv_if_eq (tgt := 67) hx hb dX11_hand_52 (by decide) (fun c_136 => ?_) (fun c_136 => absurd c_136 (fun z => z (by decide)))
          refine lv_iconst (v := (-1)) hx hb dX11_hand_67 (by decide) ?_
          refine W.widen (k := 1) (n := 3) (Nat.le_of_ble_eq_true rfl) (Nat.le_of_ble_eq_true rfl) ?_
          exact W.iret (v := (-1)) hx hb hr (fun t ht hW => ⟨⟨(-1), (-1), rfl, rfl, (if_neg (fun z => hf_125 z.2.2.2)).symm⟩, hS.F ht⟩) hS.2.2 dX11_hand_68
      · refine lq_top (v := 0) hre_117 ?_
        rw [ht] at hP1
        have hK1 := va_K.moved hvm.symm hK1
        obtain ⟨hP, hD⟩ := va_join (wr := [(h0, .inr (11, [.ref (a 1), .ref (a 2), .ref (a 3), .ref (a 4), .ref (a 5), .ref (a 6), .ref (a 7), .int 0, .ref (a 8), .int 0])), ((a 1), .inr (1, [.ref (a 9), .int 0, .ref (a 10), .int 0, .ref (a 11), .int 0, .ref (a 12), .int 0])), ((a 10), .inl ((k 10), 8, .inr (.inr (.inr (.inr g10))))), ((a 3), .inr (3, [.ref (a 1), .ref (a 2), .int 0, .ref (a 20), .ref (a 21), .ref (a 22), .ref (a 23), .ref (a 24), .ref (a 25), .ref (a 26), .ref (a 27), .ref (a 28)])), ((a 20), .inl ((k 20), 8, .inl f20)), ((a 21), .inl ((k 21), 8, .inl f21)), ((a 22), .inl ((k 22), 8, .inl f22)), ((a 23), .inl ((k 23), 8, .inl f23))]) (w1 := []) hP hD [] [0, 1, 2, 3, 4, 5, 6, 7] rfl rfl (by decide) (by decide) hk1 hFc hP1 hD1
        have hK := (hK.sub (tys' := [((k 10), .object RX4), ((k 20), .int), ((k 21), .int), ((k 22), .int), ((k 23), .int)]) [0, 1, 2, 3, 4] rfl).app hK1
        have hP : va_P (dC, dI) vwCl [(h0, .inr (11, [.ref (a 1), .ref (a 2), .ref (a 3), .ref (a 4), .ref (a 5), .ref (a 6), .ref (a 7), .int 0, .ref (a 8), .int 0])), ((a 1), .inr (1, [.ref (a 9), .int 0, .ref (a 10), .int 0, .ref (a 11), .int 0, .ref (a 12), .int 0])), ((a 10), .inl ((k 10), 8, .inr (.inr (.inr (.inr g10))))), ((a 3), .inr (3, [.ref (a 1), .ref (a 2), .int 0, .ref (a 20), .ref (a 21), .ref (a 22), .ref (a 23), .ref (a 24), .ref (a 25), .ref (a 26), .ref (a 27), .ref (a 28)])), ((a 20), .inl ((k 20), 8, .inl f20)), ((a 21), .inl ((k 21), 8, .inl f21)), ((a 22), .inl ((k 22), 8, .inl f22)), ((a 23), .inl ((k 23), 8, .inl f23))] H := hP
        have hD : va_D A [(h0, .inr (11, [.ref (a 1), .ref (a 2), .ref (a 3), .ref (a 4), .ref (a 5), .ref (a 6), .ref (a 7), .int 0, .ref (a 8), .int 0])), ((a 1), .inr (1, [.ref (a 9), .int 0, .ref (a 10), .int 0, .ref (a 11), .int 0, .ref (a 12), .int 0])), ((a 10), .inl ((k 10), 8, .inr (.inr (.inr (.inr g10))))), ((a 3), .inr (3, [.ref (a 1), .ref (a 2), .int 0, .ref (a 20), .ref (a 21), .ref (a 22), .ref (a 23), .ref (a 24), .ref (a 25), .ref (a 26), .ref (a 27), .ref (a 28)])), ((a 20), .inl ((k 20), 8, .inl f20)), ((a 21), .inl ((k 21), 8, .inl f21)), ((a 22), .inl ((k 22), 8, .inl f22)), ((a 23), .inl ((k 23), 8, .inl f23))] := hD
        have hK : va_K (dC, dI) vwCl [((k 10), .object RX4), ((k 20), .int), ((k 21), .int), ((k 22), .int), ((k 23), .int)] s := hK
        refine lv_if_eq (tgt := 47) hx hb dX11_hand_30 (by decide) (fun c_137 => ?_) (fun c_137 => absurd c_137 (fun z => z (by decide)))
        refine lv_iconst (v := 0) hx hb dX11_hand_47 (by decide) ?_
        refine lv_istore (lv' := [(5, .int 0), (0, .ref h0), (1, .int p0), (2, .int p1), (3, .int p2), (4, .int p3)]) hx hb dX11_hand_48 hl (by decide) rfl (fun ls hl => ?_)
        refine lv_iload hx hb dX11_hand_50 (lv_at hl 0 rfl) ?_
        refine lv_if_eq (tgt := 67) hx hb dX11_hand_52 (by decide) (fun c_138 => ?_) (fun c_138 => absurd c_138 (fun z => z (by decide)))
        refine lv_iconst (v := (-1)) hx hb dX11_hand_67 (by decide) ?_
        refine W.widen (k := 1) (n := 3) (Nat.le_of_ble_eq_true rfl) (Nat.le_of_ble_eq_true rfl) ?_
        exact W.iret (v := (-1)) hx hb hr (fun t ht hW => ⟨⟨(-1), (-1), rfl, rfl, (if_neg (fun z => hf_118 z.2.2.1)).symm⟩, hS.F ht⟩) hS.2.2 dX11_hand_68
    · refine lq_top (v := 0) hre_110 ?_
      rw [ht] at hP1
      have hK1 := va_K.moved hvm.symm hK1
      obtain ⟨hP, hD⟩ := va_join (wr := [(h0, .inr (11, [.ref (a 1), .ref (a 2), .ref (a 3), .ref (a 4), .ref (a 5), .ref (a 6), .ref (a 7), .int 0, .ref (a 8), .int 0])), ((a 1), .inr (1, [.ref (a 9), .int 0, .ref (a 10), .int 0, .ref (a 11), .int 0, .ref (a 12), .int 0])), ((a 10), .inl ((k 10), 8, .inr (.inr (.inr (.inr g10))))), ((a 3), .inr (3, [.ref (a 1), .ref (a 2), .int 0, .ref (a 20), .ref (a 21), .ref (a 22), .ref (a 23), .ref (a 24), .ref (a 25), .ref (a 26), .ref (a 27), .ref (a 28)])), ((a 20), .inl ((k 20), 8, .inl f20)), ((a 21), .inl ((k 21), 8, .inl f21)), ((a 22), .inl ((k 22), 8, .inl f22)), ((a 23), .inl ((k 23), 8, .inl f23))]) (w1 := []) hP hD [] [0, 1, 2, 3, 4, 5, 6, 7] rfl rfl (by decide) (by decide) hk1 hFc hP1 hD1
      have hK := (hK.sub (tys' := [((k 10), .object RX4), ((k 20), .int), ((k 21), .int), ((k 22), .int), ((k 23), .int)]) [0, 1, 2, 3, 4] rfl).app hK1
      have hP : va_P (dC, dI) vwCl [(h0, .inr (11, [.ref (a 1), .ref (a 2), .ref (a 3), .ref (a 4), .ref (a 5), .ref (a 6), .ref (a 7), .int 0, .ref (a 8), .int 0])), ((a 1), .inr (1, [.ref (a 9), .int 0, .ref (a 10), .int 0, .ref (a 11), .int 0, .ref (a 12), .int 0])), ((a 10), .inl ((k 10), 8, .inr (.inr (.inr (.inr g10))))), ((a 3), .inr (3, [.ref (a 1), .ref (a 2), .int 0, .ref (a 20), .ref (a 21), .ref (a 22), .ref (a 23), .ref (a 24), .ref (a 25), .ref (a 26), .ref (a 27), .ref (a 28)])), ((a 20), .inl ((k 20), 8, .inl f20)), ((a 21), .inl ((k 21), 8, .inl f21)), ((a 22), .inl ((k 22), 8, .inl f22)), ((a 23), .inl ((k 23), 8, .inl f23))] H := hP
      have hD : va_D A [(h0, .inr (11, [.ref (a 1), .ref (a 2), .ref (a 3), .ref (a 4), .ref (a 5), .ref (a 6), .ref (a 7), .int 0, .ref (a 8), .int 0])), ((a 1), .inr (1, [.ref (a 9), .int 0, .ref (a 10), .int 0, .ref (a 11), .int 0, .ref (a 12), .int 0])), ((a 10), .inl ((k 10), 8, .inr (.inr (.inr (.inr g10))))), ((a 3), .inr (3, [.ref (a 1), .ref (a 2), .int 0, .ref (a 20), .ref (a 21), .ref (a 22), .ref (a 23), .ref (a 24), .ref (a 25), .ref (a 26), .ref (a 27), .ref (a 28)])), ((a 20), .inl ((k 20), 8, .inl f20)), ((a 21), .inl ((k 21), 8, .inl f21)), ((a 22), .inl ((k 22), 8, .inl f22)), ((a 23), .inl ((k 23), 8, .inl f23))] := hD
      have hK : va_K (dC, dI) vwCl [((k 10), .object RX4), ((k 20), .int), ((k 21), .int), ((k 22), .int), ((k 23), .int)] s := hK
      refine lv_if_eq (tgt := 47) hx hb dX11_hand_20 (by decide) (fun c_139 => ?_) (fun c_139 => absurd c_139 (fun z => z (by decide)))
      refine lv_iconst (v := 0) hx hb dX11_hand_47 (by decide) ?_
      refine lv_istore (lv' := [(5, .int 0), (0, .ref h0), (1, .int p0), (2, .int p1), (3, .int p2), (4, .int p3)]) hx hb dX11_hand_48 hl (by decide) rfl (fun ls hl => ?_)
      refine lv_iload hx hb dX11_hand_50 (lv_at hl 0 rfl) ?_
      refine lv_if_eq (tgt := 67) hx hb dX11_hand_52 (by decide) (fun c_140 => ?_) (fun c_140 => absurd c_140 (fun z => z (by decide)))
      refine lv_iconst (v := (-1)) hx hb dX11_hand_67 (by decide) ?_
      refine W.widen (k := 1) (n := 3) (Nat.le_of_ble_eq_true rfl) (Nat.le_of_ble_eq_true rfl) ?_
      exact W.iret (v := (-1)) hx hb hr (fun t ht hW => ⟨⟨(-1), (-1), rfl, rfl, (if_neg (fun z => hf_111 z.2.1)).symm⟩, hS.F ht⟩) hS.2.2 dX11_hand_68
  · refine lq_top (v := 0) hre_103 ?_
    rw [ht] at hP1
    have hK1 := va_K.moved hvm.symm hK1
    obtain ⟨hP, hD⟩ := va_join (wr := [(h0, .inr (11, [.ref (a 1), .ref (a 2), .ref (a 3), .ref (a 4), .ref (a 5), .ref (a 6), .ref (a 7), .int 0, .ref (a 8), .int 0])), ((a 1), .inr (1, [.ref (a 9), .int 0, .ref (a 10), .int 0, .ref (a 11), .int 0, .ref (a 12), .int 0])), ((a 10), .inl ((k 10), 8, .inr (.inr (.inr (.inr g10))))), ((a 3), .inr (3, [.ref (a 1), .ref (a 2), .int 0, .ref (a 20), .ref (a 21), .ref (a 22), .ref (a 23), .ref (a 24), .ref (a 25), .ref (a 26), .ref (a 27), .ref (a 28)])), ((a 20), .inl ((k 20), 8, .inl f20)), ((a 21), .inl ((k 21), 8, .inl f21)), ((a 22), .inl ((k 22), 8, .inl f22)), ((a 23), .inl ((k 23), 8, .inl f23))]) (w1 := []) hP hD [] [0, 1, 2, 3, 4, 5, 6, 7] rfl rfl (by decide) (by decide) hk1 hFc hP1 hD1
    have hK := (hK.sub (tys' := [((k 10), .object RX4), ((k 20), .int), ((k 21), .int), ((k 22), .int), ((k 23), .int)]) [0, 1, 2, 3, 4] rfl).app hK1
    have hP : va_P (dC, dI) vwCl [(h0, .inr (11, [.ref (a 1), .ref (a 2), .ref (a 3), .ref (a 4), .ref (a 5), .ref (a 6), .ref (a 7), .int 0, .ref (a 8), .int 0])), ((a 1), .inr (1, [.ref (a 9), .int 0, .ref (a 10), .int 0, .ref (a 11), .int 0, .ref (a 12), .int 0])), ((a 10), .inl ((k 10), 8, .inr (.inr (.inr (.inr g10))))), ((a 3), .inr (3, [.ref (a 1), .ref (a 2), .int 0, .ref (a 20), .ref (a 21), .ref (a 22), .ref (a 23), .ref (a 24), .ref (a 25), .ref (a 26), .ref (a 27), .ref (a 28)])), ((a 20), .inl ((k 20), 8, .inl f20)), ((a 21), .inl ((k 21), 8, .inl f21)), ((a 22), .inl ((k 22), 8, .inl f22)), ((a 23), .inl ((k 23), 8, .inl f23))] H := hP
    have hD : va_D A [(h0, .inr (11, [.ref (a 1), .ref (a 2), .ref (a 3), .ref (a 4), .ref (a 5), .ref (a 6), .ref (a 7), .int 0, .ref (a 8), .int 0])), ((a 1), .inr (1, [.ref (a 9), .int 0, .ref (a 10), .int 0, .ref (a 11), .int 0, .ref (a 12), .int 0])), ((a 10), .inl ((k 10), 8, .inr (.inr (.inr (.inr g10))))), ((a 3), .inr (3, [.ref (a 1), .ref (a 2), .int 0, .ref (a 20), .ref (a 21), .ref (a 22), .ref (a 23), .ref (a 24), .ref (a 25), .ref (a 26), .ref (a 27), .ref (a 28)])), ((a 20), .inl ((k 20), 8, .inl f20)), ((a 21), .inl ((k 21), 8, .inl f21)), ((a 22), .inl ((k 22), 8, .inl f22)), ((a 23), .inl ((k 23), 8, .inl f23))] := hD
    have hK : va_K (dC, dI) vwCl [((k 10), .object RX4), ((k 20), .int), ((k 21), .int), ((k 22), .int), ((k 23), .int)] s := hK
    refine lv_if_eq (tgt := 47) hx hb dX11_hand_9 (by decide) (fun c_141 => ?_) (fun c_141 => absurd c_141 (fun z => z (by decide)))
    refine lv_iconst (v := 0) hx hb dX11_hand_47 (by decide) ?_
    refine lv_istore (lv' := [(5, .int 0), (0, .ref h0), (1, .int p0), (2, .int p1), (3, .int p2), (4, .int p3)]) hx hb dX11_hand_48 hl (by decide) rfl (fun ls hl => ?_)
    refine lv_iload hx hb dX11_hand_50 (lv_at hl 0 rfl) ?_
    refine lv_if_eq (tgt := 67) hx hb dX11_hand_52 (by decide) (fun c_142 => ?_) (fun c_142 => absurd c_142 (fun z => z (by decide)))
    refine lv_iconst (v := (-1)) hx hb dX11_hand_67 (by decide) ?_
    refine W.widen (k := 1) (n := 3) (Nat.le_of_ble_eq_true rfl) (Nat.le_of_ble_eq_true rfl) ?_
    exact W.iret (v := (-1)) hx hb hr (fun t ht hW => ⟨⟨(-1), (-1), rfl, rfl, (if_neg (fun z => hf_104 z.1)).symm⟩, hS.F ht⟩) hS.2.2 dX11_hand_68
def wo_c_piece : List Cond := [.methodLink RX11 68 yX11_within, .static yX11_within, .initialized RX11, .fieldLink RX11 28 "TypingPool" "floor" "LTypingPool$Floor;", .fieldLink RX11 99 "TypingPool$Floor" "now" "I", .constant RX11 78 (65535), .fieldLink RX11 10 "TypingPool" "book" "LTypingPool$Book;", .fieldLink RX11 112 "TypingPool$Book" "pieceCount" "I", .classLink RX11 115 RX6, .instantiable RX6 11, .initialized RX6, .instanceMethod yX6_init, .fieldLink RX11 118 "TypingPool$Piece" "department" "I", .fieldLink RX11 121 "TypingPool$Piece" "style" "I", .fieldLink RX11 124 "TypingPool$Piece" "lines" "I", .fieldLink RX11 127 "TypingPool$Piece" "secret" "I", .fieldLink RX11 130 "TypingPool$Piece" "claim" "I", .fieldLink RX11 133 "TypingPool$Piece" "comes" "I", .fieldLink RX11 136 "TypingPool$Piece" "due" "I", .fieldLink RX11 139 "TypingPool$Piece" "words" "I", .fieldLink RX11 142 "TypingPool$Piece" "copies" "I", .fieldLink RX11 145 "TypingPool$Book" "pieces" "[LTypingPool$Piece;", .methodLink RX11 149 yX6_allWork, .instanceMethod yX6_allWork, .selects RX6 yX6_allWork yX6_allWork, .methodLink RX11 153 yX3_openPiece, .instanceMethod yX3_openPiece, .selects RX3 yX3_openPiece yX3_openPiece, .initialized RX3]
def wm_c_piece : List Cond := .code yX11_piece cX11_piece 13 (some .int) :: (wo_c_piece ++ (wm_c_within ++ (wsX110 ++ (wsX30 ++ (wsX10 ++ (wsX60 ++ (wm_c_Piece_init ++ (wm_c_allWork ++ (wm_c_openPiece0 ++ ([] : List Cond))))))))))
theorem gd_c_piece : ∀ w ∈ wm_c_piece, goodWord w = true := gd_c rfl (gd_a (by decide) (gd_a gd_c_within (gd_a gd_wsX110 (gd_a gd_wsX30 (gd_a gd_wsX10 (gd_a gd_wsX60 (gd_a gd_c_Piece_init (gd_a gd_c_allWork (gd_a gd_c_openPiece0 gd_nil)))))))))
set_option maxRecDepth 20000 in
theorem im_c_piece : ∀ w ∈ wm_c_piece, w ∈ lw_tbl := im_c (in_r [.code yX11_piece cX11_piece 13 (some .int)] [659] (by decide +kernel)) (in_app (in_r wo_c_piece [594, 595, 70, 561, 429, 601, 559, 133, 660, 661, 89, 663, 666, 668, 671, 674, 677, 679, 682, 686, 690, 127, 719, 720, 721, 723, 724, 725, 83] (by decide +kernel)) (in_app im_c_within (in_app im_wsX110 (in_app im_wsX30 (in_app im_wsX10 (in_app im_wsX60 (in_app im_c_Piece_init (in_app im_c_allWork (in_app im_c_openPiece0 im_nil)))))))))
set_option maxHeartbeats 4000000 in
set_option maxRecDepth 100000 in
theorem c_piece (l : Launch) (dC : Nat → ClassId) (dI : Nat → Nat → Nat) (ad av : Nat → Nat) (sz : Nat) (h0 : Nat) (a : Nat → Nat) (k : Nat → ClassId) (g11 : Nat → Option Nat) (f24 : Nat → Int32) (f25 : Nat → Int32) (f26 : Nat → Int32) (f27 : Nat → Int32) (f28 : Nat → Int32) (p0 : Int32) (p1 : Int32) (p2 : Int32) (p3 : Int32) (p4 : Int32) (p5 : Int32) (p6 : Int32) (p7 : Int32) (p8 : Int32) : Met l yX11_piece wm_c_piece ({ frames := 4, cells := 1, slots := 11, locals := 200 }) (pr_ ad av (dC, dI) sz [.ref h0, .int p0, .int p1, .int p2, .int p3, .int p4, .int p5, .int p6, .int p7, .int p8] [(h0, .inr (11, [.ref (a 1), .ref (a 2), .ref (a 3), .ref (a 4), .ref (a 5), .ref (a 6), .ref (a 7), .int 0, .ref (a 8), .int 0])), ((a 1), .inr (1, [.ref (a 9), .int 0, .ref (a 10), .int 0, .ref (a 11), .int 0, .ref (a 12), .int 0])), ((a 11), .inl ((k 11), 30, .inr (.inr (.inr (.inr g11))))), ((a 3), .inr (3, [.ref (a 1), .ref (a 2), .int 0, .ref (a 20), .ref (a 21), .ref (a 22), .ref (a 23), .ref (a 24), .ref (a 25), .ref (a 26), .ref (a 27), .ref (a 28)])), ((a 24), .inl ((k 24), 30, .inl f24)), ((a 25), .inl ((k 25), 30, .inl f25)), ((a 26), .inl ((k 26), 30, .inl f26)), ((a 27), .inl ((k 27), 30, .inl f27)), ((a 28), .inl ((k 28), 30, .inl f28))] [((k 11), .object RX6), ((k 24), .int), ((k 25), .int), ((k 26), .int), ((k 27), .int), ((k 28), .int)]) (va_Qi (fun (r u : Int32) => u = r) (fun (r : Int32) (t : State) => (r = sp_piece p0 p1 p2 p3 p4 p5 p6 p7 p8)) (va_A [(h0, .inr (11, [.ref (a 1), .ref (a 2), .ref (a 3), .ref (a 4), .ref (a 5), .ref (a 6), .ref (a 7), .int 0, .ref (a 8), .int 0])), ((a 1), .inr (1, [.ref (a 9), .int 0, .ref (a 10), .int 0, .ref (a 11), .int 0, .ref (a 12), .int 0])), ((a 11), .inl ((k 11), 30, .inr (.inr (.inr (.inr g11))))), ((a 3), .inr (3, [.ref (a 1), .ref (a 2), .int 0, .ref (a 20), .ref (a 21), .ref (a 22), .ref (a 23), .ref (a 24), .ref (a 25), .ref (a 26), .ref (a 27), .ref (a 28)])), ((a 24), .inl ((k 24), 30, .inl f24)), ((a 25), .inl ((k 25), 30, .inl f25)), ((a 26), .inl ((k 26), 30, .inl f26)), ((a 27), .inl ((k 27), 30, .inl f27)), ((a 28), .inl ((k 28), 30, .inl f28))] sz)) 1 11 (va_A [(h0, .inr (11, [.ref (a 1), .ref (a 2), .ref (a 3), .ref (a 4), .ref (a 5), .ref (a 6), .ref (a 7), .int 0, .ref (a 8), .int 0])), ((a 1), .inr (1, [.ref (a 9), .int 0, .ref (a 10), .int 0, .ref (a 11), .int 0, .ref (a 12), .int 0])), ((a 11), .inl ((k 11), 30, .inr (.inr (.inr (.inr g11))))), ((a 3), .inr (3, [.ref (a 1), .ref (a 2), .int 0, .ref (a 20), .ref (a 21), .ref (a 22), .ref (a 23), .ref (a 24), .ref (a 25), .ref (a 26), .ref (a 27), .ref (a 28)])), ((a 24), .inl ((k 24), 30, .inl f24)), ((a 25), .inl ((k 25), 30, .inl f25)), ((a 26), .inl ((k 26), 30, .inl f26)), ((a 27), .inl ((k 27), 30, .inl f27)), ((a 28), .inl ((k 28), 30, .inl f28))] sz) := by
  refine Met.ofW (cc := cX11_piece) (maxL := 13) (ret := (some .int)) (by decide) rfl ?_
  intro p e s m args below meth c s₁ B hml hv
  obtain ⟨rfl, hsz, hP, hK, hD0, hM⟩ := hv
  have hx := B.exec
  have hb := B.bytes
  have hr := B.returns
  have hts := atoms_spec (ws := wm_c_piece) B.pre
  have hown : s.vm.findClass RX11 = some m.cls := findClass_of_methodNamed B.named
  have hlocks := B.notSynchronized
  subst hsz
  have hD := hD0.self (sz := s.heap.size)
  generalize hAe : va_A [(h0, .inr (11, [.ref (a 1), .ref (a 2), .ref (a 3), .ref (a 4), .ref (a 5), .ref (a 6), .ref (a 7), .int 0, .ref (a 8), .int 0])), ((a 1), .inr (1, [.ref (a 9), .int 0, .ref (a 10), .int 0, .ref (a 11), .int 0, .ref (a 12), .int 0])), ((a 11), .inl ((k 11), 30, .inr (.inr (.inr (.inr g11))))), ((a 3), .inr (3, [.ref (a 1), .ref (a 2), .int 0, .ref (a 20), .ref (a 21), .ref (a 22), .ref (a 23), .ref (a 24), .ref (a 25), .ref (a 26), .ref (a 27), .ref (a 28)])), ((a 24), .inl ((k 24), 30, .inl f24)), ((a 25), .inl ((k 25), 30, .inl f25)), ((a 26), .inl ((k 26), 30, .inl f26)), ((a 27), .inl ((k 27), 30, .inl f27)), ((a 28), .inl ((k 28), 30, .inl f28))] s.heap.size = A at hD hM ⊢
  have hA : ∀ q : Nat, s.heap.size ≤ q → A q := fun q h => by rw [← hAe]; exact Or.inr h
  have hS : va_S A s.heap s.heap [] := va_S.rf
  have hP : va_P (dC, dI) vwCl [(h0, .inr (11, [.ref (a 1), .ref (a 2), .ref (a 3), .ref (a 4), .ref (a 5), .ref (a 6), .ref (a 7), .int 0, .ref (a 8), .int 0])), ((a 1), .inr (1, [.ref (a 9), .int 0, .ref (a 10), .int 0, .ref (a 11), .int 0, .ref (a 12), .int 0])), ((a 11), .inl ((k 11), 30, .inr (.inr (.inr (.inr g11))))), ((a 3), .inr (3, [.ref (a 1), .ref (a 2), .int 0, .ref (a 20), .ref (a 21), .ref (a 22), .ref (a 23), .ref (a 24), .ref (a 25), .ref (a 26), .ref (a 27), .ref (a 28)])), ((a 24), .inl ((k 24), 30, .inl f24)), ((a 25), .inl ((k 25), 30, .inl f25)), ((a 26), .inl ((k 26), 30, .inl f26)), ((a 27), .inl ((k 27), 30, .inl f27)), ((a 28), .inl ((k 28), 30, .inl f28))] s.heap := hP
  have hl := lv_entry ([.ref h0, .int p0, .int p1, .int p2, .int p3, .int p4, .int p5, .int p6, .int p7, .int p8]) (n := 13) (Nat.le_of_ble_eq_true rfl)
  rw [lg_entry_eq]
  generalize (lg_sl ([.ref h0, .int p0, .int p1, .int p2, .int p3, .int p4, .int p5, .int p6, .int p7, .int p8]) ++ List.replicate (13 - (lg_sl ([.ref h0, .int p0, .int p1, .int p2, .int p3, .int p4, .int p5, .int p6, .int p7, .int p8])).length) Slot.unset).toArray = ls at hl ⊢
  have hl : lv_has ls 13 [(0, .ref h0), (1, .int p0), (2, .int p1), (3, .int p2), (4, .int p3), (5, .int p4), (6, .int p5), (7, .int p6), (8, .int p7), (9, .int p8)] := hl
  refine lv_iload_n hx hb dX11_piece_0 rfl (lv_at hl 1 rfl) ?_
  refine lv_iconst (v := 0) hx hb dX11_piece_1 (by decide) ?_
  refine lv_bipush (v := 7) hx hb dX11_piece_2 (by decide) ?_
  have hPc := hP.sub (ws' := []) [] rfl
  have hDc := hD.sub (ws' := []) [] (by decide) rfl
  have hKc := hK.sub (tys' := []) [] rfl
  have hFc := va_free (wc := []) hD hS hA [] rfl
  refine va_calli (va_runS (As := [.int p0, .int 0, .int 7]) (rest := []) ⟨hx, hb, hml, hown, hts⟩ (c_within l dC dI ad av s.heap.size p0 0 7 ) (va_cwS 3 hts (gi_3 (List.mem_cons_of_mem _ (List.mem_append_left _ (List.mem_of_getElem? (i := 0) rfl))) (List.mem_cons_of_mem _ (List.mem_append_left _ (List.mem_of_getElem? (i := 1) rfl))) (List.mem_cons_of_mem _ (List.mem_append_left _ (List.mem_of_getElem? (i := 2) rfl))) (fun _ hh => (List.mem_cons_of_mem _ (List.mem_append_right _ (List.mem_append_left _ hh)))) gd_c_within) rfl rfl rfl (by decide +kernel) ⟨Nat.le_of_ble_eq_true rfl, Nat.le_of_ble_eq_true rfl⟩) ⟨pr_blind, pr_use hPc hKc hDc hFc hS hM⟩ rfl rfl hl.1 rfl (lv_room (Nat.le_of_ble_eq_true rfl)) dX11_piece_4 ⟨Nat.le_of_ble_eq_true rfl, Nat.le_of_ble_eq_true rfl⟩) hS (fun q _ h => hFc q h) hFc (fun r_143 u t H locs ht hvm hw hB hz1 hk1 hS => ?_)
  refine W.widen (k := 0) (n := 0) (Nat.le_of_ble_eq_true rfl) (Nat.le_of_ble_eq_true rfl) ?_
  subst hw
  rcases hB with ⟨hre_144, hf_145, hf_146, hP1, hK1, hD1⟩ | ⟨hre_147, hf_148, hP1, hK1, hD1⟩
  · refine lq_top (v := 1) hre_144 ?_
    rw [ht] at hP1
    have hK1 := va_K.moved hvm.symm hK1
    obtain ⟨hP, hD⟩ := va_join (wr := [(h0, .inr (11, [.ref (a 1), .ref (a 2), .ref (a 3), .ref (a 4), .ref (a 5), .ref (a 6), .ref (a 7), .int 0, .ref (a 8), .int 0])), ((a 1), .inr (1, [.ref (a 9), .int 0, .ref (a 10), .int 0, .ref (a 11), .int 0, .ref (a 12), .int 0])), ((a 11), .inl ((k 11), 30, .inr (.inr (.inr (.inr g11))))), ((a 3), .inr (3, [.ref (a 1), .ref (a 2), .int 0, .ref (a 20), .ref (a 21), .ref (a 22), .ref (a 23), .ref (a 24), .ref (a 25), .ref (a 26), .ref (a 27), .ref (a 28)])), ((a 24), .inl ((k 24), 30, .inl f24)), ((a 25), .inl ((k 25), 30, .inl f25)), ((a 26), .inl ((k 26), 30, .inl f26)), ((a 27), .inl ((k 27), 30, .inl f27)), ((a 28), .inl ((k 28), 30, .inl f28))]) (w1 := []) hP hD [] [0, 1, 2, 3, 4, 5, 6, 7, 8] rfl rfl (by decide) (by decide) hk1 hFc hP1 hD1
    have hK := (hK.sub (tys' := [((k 11), .object RX6), ((k 24), .int), ((k 25), .int), ((k 26), .int), ((k 27), .int), ((k 28), .int)]) [0, 1, 2, 3, 4, 5] rfl).app hK1
    have hP : va_P (dC, dI) vwCl [(h0, .inr (11, [.ref (a 1), .ref (a 2), .ref (a 3), .ref (a 4), .ref (a 5), .ref (a 6), .ref (a 7), .int 0, .ref (a 8), .int 0])), ((a 1), .inr (1, [.ref (a 9), .int 0, .ref (a 10), .int 0, .ref (a 11), .int 0, .ref (a 12), .int 0])), ((a 11), .inl ((k 11), 30, .inr (.inr (.inr (.inr g11))))), ((a 3), .inr (3, [.ref (a 1), .ref (a 2), .int 0, .ref (a 20), .ref (a 21), .ref (a 22), .ref (a 23), .ref (a 24), .ref (a 25), .ref (a 26), .ref (a 27), .ref (a 28)])), ((a 24), .inl ((k 24), 30, .inl f24)), ((a 25), .inl ((k 25), 30, .inl f25)), ((a 26), .inl ((k 26), 30, .inl f26)), ((a 27), .inl ((k 27), 30, .inl f27)), ((a 28), .inl ((k 28), 30, .inl f28))] H := hP
    have hD : va_D A [(h0, .inr (11, [.ref (a 1), .ref (a 2), .ref (a 3), .ref (a 4), .ref (a 5), .ref (a 6), .ref (a 7), .int 0, .ref (a 8), .int 0])), ((a 1), .inr (1, [.ref (a 9), .int 0, .ref (a 10), .int 0, .ref (a 11), .int 0, .ref (a 12), .int 0])), ((a 11), .inl ((k 11), 30, .inr (.inr (.inr (.inr g11))))), ((a 3), .inr (3, [.ref (a 1), .ref (a 2), .int 0, .ref (a 20), .ref (a 21), .ref (a 22), .ref (a 23), .ref (a 24), .ref (a 25), .ref (a 26), .ref (a 27), .ref (a 28)])), ((a 24), .inl ((k 24), 30, .inl f24)), ((a 25), .inl ((k 25), 30, .inl f25)), ((a 26), .inl ((k 26), 30, .inl f26)), ((a 27), .inl ((k 27), 30, .inl f27)), ((a 28), .inl ((k 28), 30, .inl f28))] := hD
    have hK : va_K (dC, dI) vwCl [((k 11), .object RX6), ((k 24), .int), ((k 25), .int), ((k 26), .int), ((k 27), .int), ((k 28), .int)] s := hK
    refine lv_if_eq (tgt := 109) hx hb dX11_piece_7 (by decide) (fun c_149 => absurd c_149 (by decide)) (fun c_149 => ?_)
    refine lv_iload_n hx hb dX11_piece_10 rfl (lv_at hl 2 rfl) ?_
    refine lv_iconst (v := 0) hx hb dX11_piece_11 (by decide) ?_
    refine lv_bipush (v := 7) hx hb dX11_piece_12 (by decide) ?_
    have hPc := hP.sub (ws' := []) [] rfl
    have hDc := hD.sub (ws' := []) [] (by decide) rfl
    have hKc := hK.sub (tys' := []) [] rfl
    have hFc := va_free (wc := []) hD hS hA [] rfl
    refine va_calli (va_runS (As := [.int p1, .int 0, .int 7]) (rest := []) ⟨hx, hb, hml, hown, hts⟩ (c_within l dC dI ad av H.size p1 0 7 ) (va_cwS 3 hts (gi_3 (List.mem_cons_of_mem _ (List.mem_append_left _ (List.mem_of_getElem? (i := 0) rfl))) (List.mem_cons_of_mem _ (List.mem_append_left _ (List.mem_of_getElem? (i := 1) rfl))) (List.mem_cons_of_mem _ (List.mem_append_left _ (List.mem_of_getElem? (i := 2) rfl))) (fun _ hh => (List.mem_cons_of_mem _ (List.mem_append_right _ (List.mem_append_left _ hh)))) gd_c_within) rfl rfl rfl (by decide +kernel) ⟨Nat.le_of_ble_eq_true rfl, Nat.le_of_ble_eq_true rfl⟩) ⟨pr_blind, pr_use hPc hKc hDc hFc hS hM⟩ rfl rfl hl.1 rfl (lv_room (Nat.le_of_ble_eq_true rfl)) dX11_piece_14 ⟨Nat.le_of_ble_eq_true rfl, Nat.le_of_ble_eq_true rfl⟩) hS (fun q _ h => hFc q h) hFc (fun r_150 u t H locs ht hvm hw hB hz1 hk1 hS => ?_)
    refine W.widen (k := 0) (n := 0) (Nat.le_of_ble_eq_true rfl) (Nat.le_of_ble_eq_true rfl) ?_
    subst hw
    rcases hB with ⟨hre_151, hf_152, hf_153, hP1, hK1, hD1⟩ | ⟨hre_154, hf_155, hP1, hK1, hD1⟩
    · refine lq_top (v := 1) hre_151 ?_
      rw [ht] at hP1
      have hK1 := va_K.moved hvm.symm hK1
      obtain ⟨hP, hD⟩ := va_join (wr := [(h0, .inr (11, [.ref (a 1), .ref (a 2), .ref (a 3), .ref (a 4), .ref (a 5), .ref (a 6), .ref (a 7), .int 0, .ref (a 8), .int 0])), ((a 1), .inr (1, [.ref (a 9), .int 0, .ref (a 10), .int 0, .ref (a 11), .int 0, .ref (a 12), .int 0])), ((a 11), .inl ((k 11), 30, .inr (.inr (.inr (.inr g11))))), ((a 3), .inr (3, [.ref (a 1), .ref (a 2), .int 0, .ref (a 20), .ref (a 21), .ref (a 22), .ref (a 23), .ref (a 24), .ref (a 25), .ref (a 26), .ref (a 27), .ref (a 28)])), ((a 24), .inl ((k 24), 30, .inl f24)), ((a 25), .inl ((k 25), 30, .inl f25)), ((a 26), .inl ((k 26), 30, .inl f26)), ((a 27), .inl ((k 27), 30, .inl f27)), ((a 28), .inl ((k 28), 30, .inl f28))]) (w1 := []) hP hD [] [0, 1, 2, 3, 4, 5, 6, 7, 8] rfl rfl (by decide) (by decide) hk1 hFc hP1 hD1
      have hK := (hK.sub (tys' := [((k 11), .object RX6), ((k 24), .int), ((k 25), .int), ((k 26), .int), ((k 27), .int), ((k 28), .int)]) [0, 1, 2, 3, 4, 5] rfl).app hK1
      have hP : va_P (dC, dI) vwCl [(h0, .inr (11, [.ref (a 1), .ref (a 2), .ref (a 3), .ref (a 4), .ref (a 5), .ref (a 6), .ref (a 7), .int 0, .ref (a 8), .int 0])), ((a 1), .inr (1, [.ref (a 9), .int 0, .ref (a 10), .int 0, .ref (a 11), .int 0, .ref (a 12), .int 0])), ((a 11), .inl ((k 11), 30, .inr (.inr (.inr (.inr g11))))), ((a 3), .inr (3, [.ref (a 1), .ref (a 2), .int 0, .ref (a 20), .ref (a 21), .ref (a 22), .ref (a 23), .ref (a 24), .ref (a 25), .ref (a 26), .ref (a 27), .ref (a 28)])), ((a 24), .inl ((k 24), 30, .inl f24)), ((a 25), .inl ((k 25), 30, .inl f25)), ((a 26), .inl ((k 26), 30, .inl f26)), ((a 27), .inl ((k 27), 30, .inl f27)), ((a 28), .inl ((k 28), 30, .inl f28))] H := hP
      have hD : va_D A [(h0, .inr (11, [.ref (a 1), .ref (a 2), .ref (a 3), .ref (a 4), .ref (a 5), .ref (a 6), .ref (a 7), .int 0, .ref (a 8), .int 0])), ((a 1), .inr (1, [.ref (a 9), .int 0, .ref (a 10), .int 0, .ref (a 11), .int 0, .ref (a 12), .int 0])), ((a 11), .inl ((k 11), 30, .inr (.inr (.inr (.inr g11))))), ((a 3), .inr (3, [.ref (a 1), .ref (a 2), .int 0, .ref (a 20), .ref (a 21), .ref (a 22), .ref (a 23), .ref (a 24), .ref (a 25), .ref (a 26), .ref (a 27), .ref (a 28)])), ((a 24), .inl ((k 24), 30, .inl f24)), ((a 25), .inl ((k 25), 30, .inl f25)), ((a 26), .inl ((k 26), 30, .inl f26)), ((a 27), .inl ((k 27), 30, .inl f27)), ((a 28), .inl ((k 28), 30, .inl f28))] := hD
      have hK : va_K (dC, dI) vwCl [((k 11), .object RX6), ((k 24), .int), ((k 25), .int), ((k 26), .int), ((k 27), .int), ((k 28), .int)] s := hK
      refine lv_if_eq (tgt := 109) hx hb dX11_piece_17 (by decide) (fun c_156 => absurd c_156 (by decide)) (fun c_156 => ?_)
      refine lv_iload_n hx hb dX11_piece_20 rfl (lv_at hl 3 rfl) ?_
      refine lv_iconst (v := 1) hx hb dX11_piece_21 (by decide) ?_
      refine lv_sipush (v := 400) hx hb dX11_piece_22 (by decide) ?_
      have hPc := hP.sub (ws' := []) [] rfl
      have hDc := hD.sub (ws' := []) [] (by decide) rfl
      have hKc := hK.sub (tys' := []) [] rfl
      have hFc := va_free (wc := []) hD hS hA [] rfl
      refine va_calli (va_runS (As := [.int p2, .int 1, .int 400]) (rest := []) ⟨hx, hb, hml, hown, hts⟩ (c_within l dC dI ad av H.size p2 1 400 ) (va_cwS 3 hts (gi_3 (List.mem_cons_of_mem _ (List.mem_append_left _ (List.mem_of_getElem? (i := 0) rfl))) (List.mem_cons_of_mem _ (List.mem_append_left _ (List.mem_of_getElem? (i := 1) rfl))) (List.mem_cons_of_mem _ (List.mem_append_left _ (List.mem_of_getElem? (i := 2) rfl))) (fun _ hh => (List.mem_cons_of_mem _ (List.mem_append_right _ (List.mem_append_left _ hh)))) gd_c_within) rfl rfl rfl (by decide +kernel) ⟨Nat.le_of_ble_eq_true rfl, Nat.le_of_ble_eq_true rfl⟩) ⟨pr_blind, pr_use hPc hKc hDc hFc hS hM⟩ rfl rfl hl.1 rfl (lv_room (Nat.le_of_ble_eq_true rfl)) dX11_piece_25 ⟨Nat.le_of_ble_eq_true rfl, Nat.le_of_ble_eq_true rfl⟩) hS (fun q _ h => hFc q h) hFc (fun r_157 u t H locs ht hvm hw hB hz1 hk1 hS => ?_)
      refine W.widen (k := 0) (n := 0) (Nat.le_of_ble_eq_true rfl) (Nat.le_of_ble_eq_true rfl) ?_
      subst hw
      rcases hB with ⟨hre_158, hf_159, hf_160, hP1, hK1, hD1⟩ | ⟨hre_161, hf_162, hP1, hK1, hD1⟩
      · refine lq_top (v := 1) hre_158 ?_
        rw [ht] at hP1
        have hK1 := va_K.moved hvm.symm hK1
        obtain ⟨hP, hD⟩ := va_join (wr := [(h0, .inr (11, [.ref (a 1), .ref (a 2), .ref (a 3), .ref (a 4), .ref (a 5), .ref (a 6), .ref (a 7), .int 0, .ref (a 8), .int 0])), ((a 1), .inr (1, [.ref (a 9), .int 0, .ref (a 10), .int 0, .ref (a 11), .int 0, .ref (a 12), .int 0])), ((a 11), .inl ((k 11), 30, .inr (.inr (.inr (.inr g11))))), ((a 3), .inr (3, [.ref (a 1), .ref (a 2), .int 0, .ref (a 20), .ref (a 21), .ref (a 22), .ref (a 23), .ref (a 24), .ref (a 25), .ref (a 26), .ref (a 27), .ref (a 28)])), ((a 24), .inl ((k 24), 30, .inl f24)), ((a 25), .inl ((k 25), 30, .inl f25)), ((a 26), .inl ((k 26), 30, .inl f26)), ((a 27), .inl ((k 27), 30, .inl f27)), ((a 28), .inl ((k 28), 30, .inl f28))]) (w1 := []) hP hD [] [0, 1, 2, 3, 4, 5, 6, 7, 8] rfl rfl (by decide) (by decide) hk1 hFc hP1 hD1
        have hK := (hK.sub (tys' := [((k 11), .object RX6), ((k 24), .int), ((k 25), .int), ((k 26), .int), ((k 27), .int), ((k 28), .int)]) [0, 1, 2, 3, 4, 5] rfl).app hK1
        have hP : va_P (dC, dI) vwCl [(h0, .inr (11, [.ref (a 1), .ref (a 2), .ref (a 3), .ref (a 4), .ref (a 5), .ref (a 6), .ref (a 7), .int 0, .ref (a 8), .int 0])), ((a 1), .inr (1, [.ref (a 9), .int 0, .ref (a 10), .int 0, .ref (a 11), .int 0, .ref (a 12), .int 0])), ((a 11), .inl ((k 11), 30, .inr (.inr (.inr (.inr g11))))), ((a 3), .inr (3, [.ref (a 1), .ref (a 2), .int 0, .ref (a 20), .ref (a 21), .ref (a 22), .ref (a 23), .ref (a 24), .ref (a 25), .ref (a 26), .ref (a 27), .ref (a 28)])), ((a 24), .inl ((k 24), 30, .inl f24)), ((a 25), .inl ((k 25), 30, .inl f25)), ((a 26), .inl ((k 26), 30, .inl f26)), ((a 27), .inl ((k 27), 30, .inl f27)), ((a 28), .inl ((k 28), 30, .inl f28))] H := hP
        have hD : va_D A [(h0, .inr (11, [.ref (a 1), .ref (a 2), .ref (a 3), .ref (a 4), .ref (a 5), .ref (a 6), .ref (a 7), .int 0, .ref (a 8), .int 0])), ((a 1), .inr (1, [.ref (a 9), .int 0, .ref (a 10), .int 0, .ref (a 11), .int 0, .ref (a 12), .int 0])), ((a 11), .inl ((k 11), 30, .inr (.inr (.inr (.inr g11))))), ((a 3), .inr (3, [.ref (a 1), .ref (a 2), .int 0, .ref (a 20), .ref (a 21), .ref (a 22), .ref (a 23), .ref (a 24), .ref (a 25), .ref (a 26), .ref (a 27), .ref (a 28)])), ((a 24), .inl ((k 24), 30, .inl f24)), ((a 25), .inl ((k 25), 30, .inl f25)), ((a 26), .inl ((k 26), 30, .inl f26)), ((a 27), .inl ((k 27), 30, .inl f27)), ((a 28), .inl ((k 28), 30, .inl f28))] := hD
        have hK : va_K (dC, dI) vwCl [((k 11), .object RX6), ((k 24), .int), ((k 25), .int), ((k 26), .int), ((k 27), .int), ((k 28), .int)] s := hK
        refine lv_if_eq (tgt := 109) hx hb dX11_piece_28 (by decide) (fun c_163 => absurd c_163 (by decide)) (fun c_163 => ?_)
        refine lv_iload hx hb dX11_piece_31 (lv_at hl 4 rfl) ?_
        refine lv_iconst (v := 0) hx hb dX11_piece_33 (by decide) ?_
        refine lv_iconst (v := 3) hx hb dX11_piece_34 (by decide) ?_
        have hPc := hP.sub (ws' := []) [] rfl
        have hDc := hD.sub (ws' := []) [] (by decide) rfl
        have hKc := hK.sub (tys' := []) [] rfl
        have hFc := va_free (wc := []) hD hS hA [] rfl
        refine va_calli (va_runS (As := [.int p3, .int 0, .int 3]) (rest := []) ⟨hx, hb, hml, hown, hts⟩ (c_within l dC dI ad av H.size p3 0 3 ) (va_cwS 3 hts (gi_3 (List.mem_cons_of_mem _ (List.mem_append_left _ (List.mem_of_getElem? (i := 0) rfl))) (List.mem_cons_of_mem _ (List.mem_append_left _ (List.mem_of_getElem? (i := 1) rfl))) (List.mem_cons_of_mem _ (List.mem_append_left _ (List.mem_of_getElem? (i := 2) rfl))) (fun _ hh => (List.mem_cons_of_mem _ (List.mem_append_right _ (List.mem_append_left _ hh)))) gd_c_within) rfl rfl rfl (by decide +kernel) ⟨Nat.le_of_ble_eq_true rfl, Nat.le_of_ble_eq_true rfl⟩) ⟨pr_blind, pr_use hPc hKc hDc hFc hS hM⟩ rfl rfl hl.1 rfl (lv_room (Nat.le_of_ble_eq_true rfl)) dX11_piece_35 ⟨Nat.le_of_ble_eq_true rfl, Nat.le_of_ble_eq_true rfl⟩) hS (fun q _ h => hFc q h) hFc (fun r_164 u t H locs ht hvm hw hB hz1 hk1 hS => ?_)
        refine W.widen (k := 0) (n := 0) (Nat.le_of_ble_eq_true rfl) (Nat.le_of_ble_eq_true rfl) ?_
        subst hw
        rcases hB with ⟨hre_165, hf_166, hf_167, hP1, hK1, hD1⟩ | ⟨hre_168, hf_169, hP1, hK1, hD1⟩
        · refine lq_top (v := 1) hre_165 ?_
          rw [ht] at hP1
          have hK1 := va_K.moved hvm.symm hK1
          obtain ⟨hP, hD⟩ := va_join (wr := [(h0, .inr (11, [.ref (a 1), .ref (a 2), .ref (a 3), .ref (a 4), .ref (a 5), .ref (a 6), .ref (a 7), .int 0, .ref (a 8), .int 0])), ((a 1), .inr (1, [.ref (a 9), .int 0, .ref (a 10), .int 0, .ref (a 11), .int 0, .ref (a 12), .int 0])), ((a 11), .inl ((k 11), 30, .inr (.inr (.inr (.inr g11))))), ((a 3), .inr (3, [.ref (a 1), .ref (a 2), .int 0, .ref (a 20), .ref (a 21), .ref (a 22), .ref (a 23), .ref (a 24), .ref (a 25), .ref (a 26), .ref (a 27), .ref (a 28)])), ((a 24), .inl ((k 24), 30, .inl f24)), ((a 25), .inl ((k 25), 30, .inl f25)), ((a 26), .inl ((k 26), 30, .inl f26)), ((a 27), .inl ((k 27), 30, .inl f27)), ((a 28), .inl ((k 28), 30, .inl f28))]) (w1 := []) hP hD [] [0, 1, 2, 3, 4, 5, 6, 7, 8] rfl rfl (by decide) (by decide) hk1 hFc hP1 hD1
          have hK := (hK.sub (tys' := [((k 11), .object RX6), ((k 24), .int), ((k 25), .int), ((k 26), .int), ((k 27), .int), ((k 28), .int)]) [0, 1, 2, 3, 4, 5] rfl).app hK1
          have hP : va_P (dC, dI) vwCl [(h0, .inr (11, [.ref (a 1), .ref (a 2), .ref (a 3), .ref (a 4), .ref (a 5), .ref (a 6), .ref (a 7), .int 0, .ref (a 8), .int 0])), ((a 1), .inr (1, [.ref (a 9), .int 0, .ref (a 10), .int 0, .ref (a 11), .int 0, .ref (a 12), .int 0])), ((a 11), .inl ((k 11), 30, .inr (.inr (.inr (.inr g11))))), ((a 3), .inr (3, [.ref (a 1), .ref (a 2), .int 0, .ref (a 20), .ref (a 21), .ref (a 22), .ref (a 23), .ref (a 24), .ref (a 25), .ref (a 26), .ref (a 27), .ref (a 28)])), ((a 24), .inl ((k 24), 30, .inl f24)), ((a 25), .inl ((k 25), 30, .inl f25)), ((a 26), .inl ((k 26), 30, .inl f26)), ((a 27), .inl ((k 27), 30, .inl f27)), ((a 28), .inl ((k 28), 30, .inl f28))] H := hP
          have hD : va_D A [(h0, .inr (11, [.ref (a 1), .ref (a 2), .ref (a 3), .ref (a 4), .ref (a 5), .ref (a 6), .ref (a 7), .int 0, .ref (a 8), .int 0])), ((a 1), .inr (1, [.ref (a 9), .int 0, .ref (a 10), .int 0, .ref (a 11), .int 0, .ref (a 12), .int 0])), ((a 11), .inl ((k 11), 30, .inr (.inr (.inr (.inr g11))))), ((a 3), .inr (3, [.ref (a 1), .ref (a 2), .int 0, .ref (a 20), .ref (a 21), .ref (a 22), .ref (a 23), .ref (a 24), .ref (a 25), .ref (a 26), .ref (a 27), .ref (a 28)])), ((a 24), .inl ((k 24), 30, .inl f24)), ((a 25), .inl ((k 25), 30, .inl f25)), ((a 26), .inl ((k 26), 30, .inl f26)), ((a 27), .inl ((k 27), 30, .inl f27)), ((a 28), .inl ((k 28), 30, .inl f28))] := hD
          have hK : va_K (dC, dI) vwCl [((k 11), .object RX6), ((k 24), .int), ((k 25), .int), ((k 26), .int), ((k 27), .int), ((k 28), .int)] s := hK
          refine lv_if_eq (tgt := 109) hx hb dX11_piece_38 (by decide) (fun c_170 => absurd c_170 (by decide)) (fun c_170 => ?_)
          refine lv_iload hx hb dX11_piece_41 (lv_at hl 5 rfl) ?_
          refine lv_iconst (v := 0) hx hb dX11_piece_43 (by decide) ?_
          refine lv_bipush (v := 9) hx hb dX11_piece_44 (by decide) ?_
          have hPc := hP.sub (ws' := []) [] rfl
          have hDc := hD.sub (ws' := []) [] (by decide) rfl
          have hKc := hK.sub (tys' := []) [] rfl
          have hFc := va_free (wc := []) hD hS hA [] rfl
          refine va_calli (va_runS (As := [.int p4, .int 0, .int 9]) (rest := []) ⟨hx, hb, hml, hown, hts⟩ (c_within l dC dI ad av H.size p4 0 9 ) (va_cwS 3 hts (gi_3 (List.mem_cons_of_mem _ (List.mem_append_left _ (List.mem_of_getElem? (i := 0) rfl))) (List.mem_cons_of_mem _ (List.mem_append_left _ (List.mem_of_getElem? (i := 1) rfl))) (List.mem_cons_of_mem _ (List.mem_append_left _ (List.mem_of_getElem? (i := 2) rfl))) (fun _ hh => (List.mem_cons_of_mem _ (List.mem_append_right _ (List.mem_append_left _ hh)))) gd_c_within) rfl rfl rfl (by decide +kernel) ⟨Nat.le_of_ble_eq_true rfl, Nat.le_of_ble_eq_true rfl⟩) ⟨pr_blind, pr_use hPc hKc hDc hFc hS hM⟩ rfl rfl hl.1 rfl (lv_room (Nat.le_of_ble_eq_true rfl)) dX11_piece_46 ⟨Nat.le_of_ble_eq_true rfl, Nat.le_of_ble_eq_true rfl⟩) hS (fun q _ h => hFc q h) hFc (fun r_171 u t H locs ht hvm hw hB hz1 hk1 hS => ?_)
          refine W.widen (k := 0) (n := 0) (Nat.le_of_ble_eq_true rfl) (Nat.le_of_ble_eq_true rfl) ?_
          subst hw
          rcases hB with ⟨hre_172, hf_173, hf_174, hP1, hK1, hD1⟩ | ⟨hre_175, hf_176, hP1, hK1, hD1⟩
          · refine lq_top (v := 1) hre_172 ?_
            rw [ht] at hP1
            have hK1 := va_K.moved hvm.symm hK1
            obtain ⟨hP, hD⟩ := va_join (wr := [(h0, .inr (11, [.ref (a 1), .ref (a 2), .ref (a 3), .ref (a 4), .ref (a 5), .ref (a 6), .ref (a 7), .int 0, .ref (a 8), .int 0])), ((a 1), .inr (1, [.ref (a 9), .int 0, .ref (a 10), .int 0, .ref (a 11), .int 0, .ref (a 12), .int 0])), ((a 11), .inl ((k 11), 30, .inr (.inr (.inr (.inr g11))))), ((a 3), .inr (3, [.ref (a 1), .ref (a 2), .int 0, .ref (a 20), .ref (a 21), .ref (a 22), .ref (a 23), .ref (a 24), .ref (a 25), .ref (a 26), .ref (a 27), .ref (a 28)])), ((a 24), .inl ((k 24), 30, .inl f24)), ((a 25), .inl ((k 25), 30, .inl f25)), ((a 26), .inl ((k 26), 30, .inl f26)), ((a 27), .inl ((k 27), 30, .inl f27)), ((a 28), .inl ((k 28), 30, .inl f28))]) (w1 := []) hP hD [] [0, 1, 2, 3, 4, 5, 6, 7, 8] rfl rfl (by decide) (by decide) hk1 hFc hP1 hD1
            have hK := (hK.sub (tys' := [((k 11), .object RX6), ((k 24), .int), ((k 25), .int), ((k 26), .int), ((k 27), .int), ((k 28), .int)]) [0, 1, 2, 3, 4, 5] rfl).app hK1
            have hP : va_P (dC, dI) vwCl [(h0, .inr (11, [.ref (a 1), .ref (a 2), .ref (a 3), .ref (a 4), .ref (a 5), .ref (a 6), .ref (a 7), .int 0, .ref (a 8), .int 0])), ((a 1), .inr (1, [.ref (a 9), .int 0, .ref (a 10), .int 0, .ref (a 11), .int 0, .ref (a 12), .int 0])), ((a 11), .inl ((k 11), 30, .inr (.inr (.inr (.inr g11))))), ((a 3), .inr (3, [.ref (a 1), .ref (a 2), .int 0, .ref (a 20), .ref (a 21), .ref (a 22), .ref (a 23), .ref (a 24), .ref (a 25), .ref (a 26), .ref (a 27), .ref (a 28)])), ((a 24), .inl ((k 24), 30, .inl f24)), ((a 25), .inl ((k 25), 30, .inl f25)), ((a 26), .inl ((k 26), 30, .inl f26)), ((a 27), .inl ((k 27), 30, .inl f27)), ((a 28), .inl ((k 28), 30, .inl f28))] H := hP
            have hD : va_D A [(h0, .inr (11, [.ref (a 1), .ref (a 2), .ref (a 3), .ref (a 4), .ref (a 5), .ref (a 6), .ref (a 7), .int 0, .ref (a 8), .int 0])), ((a 1), .inr (1, [.ref (a 9), .int 0, .ref (a 10), .int 0, .ref (a 11), .int 0, .ref (a 12), .int 0])), ((a 11), .inl ((k 11), 30, .inr (.inr (.inr (.inr g11))))), ((a 3), .inr (3, [.ref (a 1), .ref (a 2), .int 0, .ref (a 20), .ref (a 21), .ref (a 22), .ref (a 23), .ref (a 24), .ref (a 25), .ref (a 26), .ref (a 27), .ref (a 28)])), ((a 24), .inl ((k 24), 30, .inl f24)), ((a 25), .inl ((k 25), 30, .inl f25)), ((a 26), .inl ((k 26), 30, .inl f26)), ((a 27), .inl ((k 27), 30, .inl f27)), ((a 28), .inl ((k 28), 30, .inl f28))] := hD
            have hK : va_K (dC, dI) vwCl [((k 11), .object RX6), ((k 24), .int), ((k 25), .int), ((k 26), .int), ((k 27), .int), ((k 28), .int)] s := hK
            refine lv_if_eq (tgt := 109) hx hb dX11_piece_49 (by decide) (fun c_177 => absurd c_177 (by decide)) (fun c_177 => ?_)
            refine lv_iload hx hb dX11_piece_52 (lv_at hl 6 rfl) ?_
            refine lv_aload_n hx hb dX11_piece_54 rfl (lv_at hl 0 rfl) ?_
            refine va_get (D := (dC, dI)) (ci := 11) (v := .ref (a 3)) (C := RX11) (T := TX11) (N := 10) hx hb hts (fun _ hh => (List.mem_cons_of_mem _ (List.mem_append_right _ (List.mem_append_right _ (List.mem_append_left _ hh))))) hown hK hP 0 rfl rfl 2 (by decide) (hts (.fieldLink RX11 28 "TypingPool" "floor" "LTypingPool$Floor;") (List.mem_cons_of_mem _ (List.mem_append_left _ (List.mem_of_getElem? (i := 3) rfl)))) (fun _ h9 => h9) rfl dX11_piece_55 ?_
            refine va_get (D := (dC, dI)) (ci := 3) (v := .int 0) (C := RX3) (T := TX3) (N := 12) hx hb hts (fun _ hh => (List.mem_cons_of_mem _ (List.mem_append_right _ (List.mem_append_right _ (List.mem_append_right _ (List.mem_append_left _ hh)))))) hown hK hP 3 rfl rfl 2 (by decide) (hts (.fieldLink RX11 99 "TypingPool$Floor" "now" "I") (List.mem_cons_of_mem _ (List.mem_append_left _ (List.mem_of_getElem? (i := 4) rfl)))) (fun _ h9 => h9) rfl dX11_piece_58 ?_
            refine lv_sipush (v := 4800) hx hb dX11_piece_61 (by decide) ?_
            have hPc := hP.sub (ws' := []) [] rfl
            have hDc := hD.sub (ws' := []) [] (by decide) rfl
            have hKc := hK.sub (tys' := []) [] rfl
            have hFc := va_free (wc := []) hD hS hA [] rfl
            refine va_calli (va_runS (As := [.int p5, .int 0, .int 4800]) (rest := []) ⟨hx, hb, hml, hown, hts⟩ (c_within l dC dI ad av H.size p5 0 4800 ) (va_cwS 3 hts (gi_3 (List.mem_cons_of_mem _ (List.mem_append_left _ (List.mem_of_getElem? (i := 0) rfl))) (List.mem_cons_of_mem _ (List.mem_append_left _ (List.mem_of_getElem? (i := 1) rfl))) (List.mem_cons_of_mem _ (List.mem_append_left _ (List.mem_of_getElem? (i := 2) rfl))) (fun _ hh => (List.mem_cons_of_mem _ (List.mem_append_right _ (List.mem_append_left _ hh)))) gd_c_within) rfl rfl rfl (by decide +kernel) ⟨Nat.le_of_ble_eq_true rfl, Nat.le_of_ble_eq_true rfl⟩) ⟨pr_blind, pr_use hPc hKc hDc hFc hS hM⟩ rfl rfl hl.1 rfl (lv_room (Nat.le_of_ble_eq_true rfl)) dX11_piece_64 ⟨Nat.le_of_ble_eq_true rfl, Nat.le_of_ble_eq_true rfl⟩) hS (fun q _ h => hFc q h) hFc (fun r_178 u t H locs ht hvm hw hB hz1 hk1 hS => ?_)
            refine W.widen (k := 0) (n := 0) (Nat.le_of_ble_eq_true rfl) (Nat.le_of_ble_eq_true rfl) ?_
            subst hw
            rcases hB with ⟨hre_179, hf_180, hf_181, hP1, hK1, hD1⟩ | ⟨hre_182, hf_183, hP1, hK1, hD1⟩
            · refine lq_top (v := 1) hre_179 ?_
              rw [ht] at hP1
              have hK1 := va_K.moved hvm.symm hK1
              obtain ⟨hP, hD⟩ := va_join (wr := [(h0, .inr (11, [.ref (a 1), .ref (a 2), .ref (a 3), .ref (a 4), .ref (a 5), .ref (a 6), .ref (a 7), .int 0, .ref (a 8), .int 0])), ((a 1), .inr (1, [.ref (a 9), .int 0, .ref (a 10), .int 0, .ref (a 11), .int 0, .ref (a 12), .int 0])), ((a 11), .inl ((k 11), 30, .inr (.inr (.inr (.inr g11))))), ((a 3), .inr (3, [.ref (a 1), .ref (a 2), .int 0, .ref (a 20), .ref (a 21), .ref (a 22), .ref (a 23), .ref (a 24), .ref (a 25), .ref (a 26), .ref (a 27), .ref (a 28)])), ((a 24), .inl ((k 24), 30, .inl f24)), ((a 25), .inl ((k 25), 30, .inl f25)), ((a 26), .inl ((k 26), 30, .inl f26)), ((a 27), .inl ((k 27), 30, .inl f27)), ((a 28), .inl ((k 28), 30, .inl f28))]) (w1 := []) hP hD [] [0, 1, 2, 3, 4, 5, 6, 7, 8] rfl rfl (by decide) (by decide) hk1 hFc hP1 hD1
              have hK := (hK.sub (tys' := [((k 11), .object RX6), ((k 24), .int), ((k 25), .int), ((k 26), .int), ((k 27), .int), ((k 28), .int)]) [0, 1, 2, 3, 4, 5] rfl).app hK1
              have hP : va_P (dC, dI) vwCl [(h0, .inr (11, [.ref (a 1), .ref (a 2), .ref (a 3), .ref (a 4), .ref (a 5), .ref (a 6), .ref (a 7), .int 0, .ref (a 8), .int 0])), ((a 1), .inr (1, [.ref (a 9), .int 0, .ref (a 10), .int 0, .ref (a 11), .int 0, .ref (a 12), .int 0])), ((a 11), .inl ((k 11), 30, .inr (.inr (.inr (.inr g11))))), ((a 3), .inr (3, [.ref (a 1), .ref (a 2), .int 0, .ref (a 20), .ref (a 21), .ref (a 22), .ref (a 23), .ref (a 24), .ref (a 25), .ref (a 26), .ref (a 27), .ref (a 28)])), ((a 24), .inl ((k 24), 30, .inl f24)), ((a 25), .inl ((k 25), 30, .inl f25)), ((a 26), .inl ((k 26), 30, .inl f26)), ((a 27), .inl ((k 27), 30, .inl f27)), ((a 28), .inl ((k 28), 30, .inl f28))] H := hP
              have hD : va_D A [(h0, .inr (11, [.ref (a 1), .ref (a 2), .ref (a 3), .ref (a 4), .ref (a 5), .ref (a 6), .ref (a 7), .int 0, .ref (a 8), .int 0])), ((a 1), .inr (1, [.ref (a 9), .int 0, .ref (a 10), .int 0, .ref (a 11), .int 0, .ref (a 12), .int 0])), ((a 11), .inl ((k 11), 30, .inr (.inr (.inr (.inr g11))))), ((a 3), .inr (3, [.ref (a 1), .ref (a 2), .int 0, .ref (a 20), .ref (a 21), .ref (a 22), .ref (a 23), .ref (a 24), .ref (a 25), .ref (a 26), .ref (a 27), .ref (a 28)])), ((a 24), .inl ((k 24), 30, .inl f24)), ((a 25), .inl ((k 25), 30, .inl f25)), ((a 26), .inl ((k 26), 30, .inl f26)), ((a 27), .inl ((k 27), 30, .inl f27)), ((a 28), .inl ((k 28), 30, .inl f28))] := hD
              have hK : va_K (dC, dI) vwCl [((k 11), .object RX6), ((k 24), .int), ((k 25), .int), ((k 26), .int), ((k 27), .int), ((k 28), .int)] s := hK
              refine lv_if_eq (tgt := 109) hx hb dX11_piece_67 (by decide) (fun c_184 => absurd c_184 (by decide)) (fun c_184 => ?_)
              refine lv_iload hx hb dX11_piece_70 (lv_at hl 7 rfl) ?_
              refine lv_iload hx hb dX11_piece_72 (lv_at hl 6 rfl) ?_
              refine lv_sipush (v := 4800) hx hb dX11_piece_74 (by decide) ?_
              have hPc := hP.sub (ws' := []) [] rfl
              have hDc := hD.sub (ws' := []) [] (by decide) rfl
              have hKc := hK.sub (tys' := []) [] rfl
              have hFc := va_free (wc := []) hD hS hA [] rfl
              refine va_calli (va_runS (As := [.int p6, .int p5, .int 4800]) (rest := []) ⟨hx, hb, hml, hown, hts⟩ (c_within l dC dI ad av H.size p6 p5 4800 ) (va_cwS 3 hts (gi_3 (List.mem_cons_of_mem _ (List.mem_append_left _ (List.mem_of_getElem? (i := 0) rfl))) (List.mem_cons_of_mem _ (List.mem_append_left _ (List.mem_of_getElem? (i := 1) rfl))) (List.mem_cons_of_mem _ (List.mem_append_left _ (List.mem_of_getElem? (i := 2) rfl))) (fun _ hh => (List.mem_cons_of_mem _ (List.mem_append_right _ (List.mem_append_left _ hh)))) gd_c_within) rfl rfl rfl (by decide +kernel) ⟨Nat.le_of_ble_eq_true rfl, Nat.le_of_ble_eq_true rfl⟩) ⟨pr_blind, pr_use hPc hKc hDc hFc hS hM⟩ rfl rfl hl.1 rfl (lv_room (Nat.le_of_ble_eq_true rfl)) dX11_piece_77 ⟨Nat.le_of_ble_eq_true rfl, Nat.le_of_ble_eq_true rfl⟩) hS (fun q _ h => hFc q h) hFc (fun r_185 u t H locs ht hvm hw hB hz1 hk1 hS => ?_)
              refine W.widen (k := 0) (n := 0) (Nat.le_of_ble_eq_true rfl) (Nat.le_of_ble_eq_true rfl) ?_
              subst hw
              rcases hB with ⟨hre_186, hf_187, hf_188, hP1, hK1, hD1⟩ | ⟨hre_189, hf_190, hP1, hK1, hD1⟩
              · refine lq_top (v := 1) hre_186 ?_
                rw [ht] at hP1
                have hK1 := va_K.moved hvm.symm hK1
                obtain ⟨hP, hD⟩ := va_join (wr := [(h0, .inr (11, [.ref (a 1), .ref (a 2), .ref (a 3), .ref (a 4), .ref (a 5), .ref (a 6), .ref (a 7), .int 0, .ref (a 8), .int 0])), ((a 1), .inr (1, [.ref (a 9), .int 0, .ref (a 10), .int 0, .ref (a 11), .int 0, .ref (a 12), .int 0])), ((a 11), .inl ((k 11), 30, .inr (.inr (.inr (.inr g11))))), ((a 3), .inr (3, [.ref (a 1), .ref (a 2), .int 0, .ref (a 20), .ref (a 21), .ref (a 22), .ref (a 23), .ref (a 24), .ref (a 25), .ref (a 26), .ref (a 27), .ref (a 28)])), ((a 24), .inl ((k 24), 30, .inl f24)), ((a 25), .inl ((k 25), 30, .inl f25)), ((a 26), .inl ((k 26), 30, .inl f26)), ((a 27), .inl ((k 27), 30, .inl f27)), ((a 28), .inl ((k 28), 30, .inl f28))]) (w1 := []) hP hD [] [0, 1, 2, 3, 4, 5, 6, 7, 8] rfl rfl (by decide) (by decide) hk1 hFc hP1 hD1
                have hK := (hK.sub (tys' := [((k 11), .object RX6), ((k 24), .int), ((k 25), .int), ((k 26), .int), ((k 27), .int), ((k 28), .int)]) [0, 1, 2, 3, 4, 5] rfl).app hK1
                have hP : va_P (dC, dI) vwCl [(h0, .inr (11, [.ref (a 1), .ref (a 2), .ref (a 3), .ref (a 4), .ref (a 5), .ref (a 6), .ref (a 7), .int 0, .ref (a 8), .int 0])), ((a 1), .inr (1, [.ref (a 9), .int 0, .ref (a 10), .int 0, .ref (a 11), .int 0, .ref (a 12), .int 0])), ((a 11), .inl ((k 11), 30, .inr (.inr (.inr (.inr g11))))), ((a 3), .inr (3, [.ref (a 1), .ref (a 2), .int 0, .ref (a 20), .ref (a 21), .ref (a 22), .ref (a 23), .ref (a 24), .ref (a 25), .ref (a 26), .ref (a 27), .ref (a 28)])), ((a 24), .inl ((k 24), 30, .inl f24)), ((a 25), .inl ((k 25), 30, .inl f25)), ((a 26), .inl ((k 26), 30, .inl f26)), ((a 27), .inl ((k 27), 30, .inl f27)), ((a 28), .inl ((k 28), 30, .inl f28))] H := hP
                have hD : va_D A [(h0, .inr (11, [.ref (a 1), .ref (a 2), .ref (a 3), .ref (a 4), .ref (a 5), .ref (a 6), .ref (a 7), .int 0, .ref (a 8), .int 0])), ((a 1), .inr (1, [.ref (a 9), .int 0, .ref (a 10), .int 0, .ref (a 11), .int 0, .ref (a 12), .int 0])), ((a 11), .inl ((k 11), 30, .inr (.inr (.inr (.inr g11))))), ((a 3), .inr (3, [.ref (a 1), .ref (a 2), .int 0, .ref (a 20), .ref (a 21), .ref (a 22), .ref (a 23), .ref (a 24), .ref (a 25), .ref (a 26), .ref (a 27), .ref (a 28)])), ((a 24), .inl ((k 24), 30, .inl f24)), ((a 25), .inl ((k 25), 30, .inl f25)), ((a 26), .inl ((k 26), 30, .inl f26)), ((a 27), .inl ((k 27), 30, .inl f27)), ((a 28), .inl ((k 28), 30, .inl f28))] := hD
                have hK : va_K (dC, dI) vwCl [((k 11), .object RX6), ((k 24), .int), ((k 25), .int), ((k 26), .int), ((k 27), .int), ((k 28), .int)] s := hK
                refine lv_if_eq (tgt := 109) hx hb dX11_piece_80 (by decide) (fun c_191 => absurd c_191 (by decide)) (fun c_191 => ?_)
                refine lv_iload hx hb dX11_piece_83 (lv_at hl 8 rfl) ?_
                refine lv_iconst (v := 0) hx hb dX11_piece_85 (by decide) ?_
                refine lv_ldc hx hb hown (hts (.constant RX11 78 (65535)) (List.mem_cons_of_mem _ (List.mem_append_left _ (List.mem_of_getElem? (i := 5) rfl)))) dX11_piece_86 ?_
                have hPc := hP.sub (ws' := []) [] rfl
                have hDc := hD.sub (ws' := []) [] (by decide) rfl
                have hKc := hK.sub (tys' := []) [] rfl
                have hFc := va_free (wc := []) hD hS hA [] rfl
                refine va_calli (va_runS (As := [.int p7, .int 0, .int 65535]) (rest := []) ⟨hx, hb, hml, hown, hts⟩ (c_within l dC dI ad av H.size p7 0 65535 ) (va_cwS 3 hts (gi_3 (List.mem_cons_of_mem _ (List.mem_append_left _ (List.mem_of_getElem? (i := 0) rfl))) (List.mem_cons_of_mem _ (List.mem_append_left _ (List.mem_of_getElem? (i := 1) rfl))) (List.mem_cons_of_mem _ (List.mem_append_left _ (List.mem_of_getElem? (i := 2) rfl))) (fun _ hh => (List.mem_cons_of_mem _ (List.mem_append_right _ (List.mem_append_left _ hh)))) gd_c_within) rfl rfl rfl (by decide +kernel) ⟨Nat.le_of_ble_eq_true rfl, Nat.le_of_ble_eq_true rfl⟩) ⟨pr_blind, pr_use hPc hKc hDc hFc hS hM⟩ rfl rfl hl.1 rfl (lv_room (Nat.le_of_ble_eq_true rfl)) dX11_piece_88 ⟨Nat.le_of_ble_eq_true rfl, Nat.le_of_ble_eq_true rfl⟩) hS (fun q _ h => hFc q h) hFc (fun r_192 u t H locs ht hvm hw hB hz1 hk1 hS => ?_)
                refine W.widen (k := 0) (n := 0) (Nat.le_of_ble_eq_true rfl) (Nat.le_of_ble_eq_true rfl) ?_
                subst hw
                rcases hB with ⟨hre_193, hf_194, hf_195, hP1, hK1, hD1⟩ | ⟨hre_196, hf_197, hP1, hK1, hD1⟩
                · refine lq_top (v := 1) hre_193 ?_
                  rw [ht] at hP1
                  have hK1 := va_K.moved hvm.symm hK1
                  obtain ⟨hP, hD⟩ := va_join (wr := [(h0, .inr (11, [.ref (a 1), .ref (a 2), .ref (a 3), .ref (a 4), .ref (a 5), .ref (a 6), .ref (a 7), .int 0, .ref (a 8), .int 0])), ((a 1), .inr (1, [.ref (a 9), .int 0, .ref (a 10), .int 0, .ref (a 11), .int 0, .ref (a 12), .int 0])), ((a 11), .inl ((k 11), 30, .inr (.inr (.inr (.inr g11))))), ((a 3), .inr (3, [.ref (a 1), .ref (a 2), .int 0, .ref (a 20), .ref (a 21), .ref (a 22), .ref (a 23), .ref (a 24), .ref (a 25), .ref (a 26), .ref (a 27), .ref (a 28)])), ((a 24), .inl ((k 24), 30, .inl f24)), ((a 25), .inl ((k 25), 30, .inl f25)), ((a 26), .inl ((k 26), 30, .inl f26)), ((a 27), .inl ((k 27), 30, .inl f27)), ((a 28), .inl ((k 28), 30, .inl f28))]) (w1 := []) hP hD [] [0, 1, 2, 3, 4, 5, 6, 7, 8] rfl rfl (by decide) (by decide) hk1 hFc hP1 hD1
                  have hK := (hK.sub (tys' := [((k 11), .object RX6), ((k 24), .int), ((k 25), .int), ((k 26), .int), ((k 27), .int), ((k 28), .int)]) [0, 1, 2, 3, 4, 5] rfl).app hK1
                  have hP : va_P (dC, dI) vwCl [(h0, .inr (11, [.ref (a 1), .ref (a 2), .ref (a 3), .ref (a 4), .ref (a 5), .ref (a 6), .ref (a 7), .int 0, .ref (a 8), .int 0])), ((a 1), .inr (1, [.ref (a 9), .int 0, .ref (a 10), .int 0, .ref (a 11), .int 0, .ref (a 12), .int 0])), ((a 11), .inl ((k 11), 30, .inr (.inr (.inr (.inr g11))))), ((a 3), .inr (3, [.ref (a 1), .ref (a 2), .int 0, .ref (a 20), .ref (a 21), .ref (a 22), .ref (a 23), .ref (a 24), .ref (a 25), .ref (a 26), .ref (a 27), .ref (a 28)])), ((a 24), .inl ((k 24), 30, .inl f24)), ((a 25), .inl ((k 25), 30, .inl f25)), ((a 26), .inl ((k 26), 30, .inl f26)), ((a 27), .inl ((k 27), 30, .inl f27)), ((a 28), .inl ((k 28), 30, .inl f28))] H := hP
                  have hD : va_D A [(h0, .inr (11, [.ref (a 1), .ref (a 2), .ref (a 3), .ref (a 4), .ref (a 5), .ref (a 6), .ref (a 7), .int 0, .ref (a 8), .int 0])), ((a 1), .inr (1, [.ref (a 9), .int 0, .ref (a 10), .int 0, .ref (a 11), .int 0, .ref (a 12), .int 0])), ((a 11), .inl ((k 11), 30, .inr (.inr (.inr (.inr g11))))), ((a 3), .inr (3, [.ref (a 1), .ref (a 2), .int 0, .ref (a 20), .ref (a 21), .ref (a 22), .ref (a 23), .ref (a 24), .ref (a 25), .ref (a 26), .ref (a 27), .ref (a 28)])), ((a 24), .inl ((k 24), 30, .inl f24)), ((a 25), .inl ((k 25), 30, .inl f25)), ((a 26), .inl ((k 26), 30, .inl f26)), ((a 27), .inl ((k 27), 30, .inl f27)), ((a 28), .inl ((k 28), 30, .inl f28))] := hD
                  have hK : va_K (dC, dI) vwCl [((k 11), .object RX6), ((k 24), .int), ((k 25), .int), ((k 26), .int), ((k 27), .int), ((k 28), .int)] s := hK
                  refine lv_if_eq (tgt := 109) hx hb dX11_piece_91 (by decide) (fun c_198 => absurd c_198 (by decide)) (fun c_198 => ?_)
                  refine lv_iload hx hb dX11_piece_94 (lv_at hl 9 rfl) ?_
                  refine lv_iconst (v := 0) hx hb dX11_piece_96 (by decide) ?_
                  refine lv_bipush (v := 6) hx hb dX11_piece_97 (by decide) ?_
                  have hPc := hP.sub (ws' := []) [] rfl
                  have hDc := hD.sub (ws' := []) [] (by decide) rfl
                  have hKc := hK.sub (tys' := []) [] rfl
                  have hFc := va_free (wc := []) hD hS hA [] rfl
                  refine va_calli (va_runS (As := [.int p8, .int 0, .int 6]) (rest := []) ⟨hx, hb, hml, hown, hts⟩ (c_within l dC dI ad av H.size p8 0 6 ) (va_cwS 3 hts (gi_3 (List.mem_cons_of_mem _ (List.mem_append_left _ (List.mem_of_getElem? (i := 0) rfl))) (List.mem_cons_of_mem _ (List.mem_append_left _ (List.mem_of_getElem? (i := 1) rfl))) (List.mem_cons_of_mem _ (List.mem_append_left _ (List.mem_of_getElem? (i := 2) rfl))) (fun _ hh => (List.mem_cons_of_mem _ (List.mem_append_right _ (List.mem_append_left _ hh)))) gd_c_within) rfl rfl rfl (by decide +kernel) ⟨Nat.le_of_ble_eq_true rfl, Nat.le_of_ble_eq_true rfl⟩) ⟨pr_blind, pr_use hPc hKc hDc hFc hS hM⟩ rfl rfl hl.1 rfl (lv_room (Nat.le_of_ble_eq_true rfl)) dX11_piece_99 ⟨Nat.le_of_ble_eq_true rfl, Nat.le_of_ble_eq_true rfl⟩) hS (fun q _ h => hFc q h) hFc (fun r_199 u t H locs ht hvm hw hB hz1 hk1 hS => ?_)
                  refine W.widen (k := 0) (n := 0) (Nat.le_of_ble_eq_true rfl) (Nat.le_of_ble_eq_true rfl) ?_
                  subst hw
                  rcases hB with ⟨hre_200, hf_201, hf_202, hP1, hK1, hD1⟩ | ⟨hre_203, hf_204, hP1, hK1, hD1⟩
                  · refine lq_top (v := 1) hre_200 ?_
                    rw [ht] at hP1
                    have hK1 := va_K.moved hvm.symm hK1
                    obtain ⟨hP, hD⟩ := va_join (wr := [(h0, .inr (11, [.ref (a 1), .ref (a 2), .ref (a 3), .ref (a 4), .ref (a 5), .ref (a 6), .ref (a 7), .int 0, .ref (a 8), .int 0])), ((a 1), .inr (1, [.ref (a 9), .int 0, .ref (a 10), .int 0, .ref (a 11), .int 0, .ref (a 12), .int 0])), ((a 11), .inl ((k 11), 30, .inr (.inr (.inr (.inr g11))))), ((a 3), .inr (3, [.ref (a 1), .ref (a 2), .int 0, .ref (a 20), .ref (a 21), .ref (a 22), .ref (a 23), .ref (a 24), .ref (a 25), .ref (a 26), .ref (a 27), .ref (a 28)])), ((a 24), .inl ((k 24), 30, .inl f24)), ((a 25), .inl ((k 25), 30, .inl f25)), ((a 26), .inl ((k 26), 30, .inl f26)), ((a 27), .inl ((k 27), 30, .inl f27)), ((a 28), .inl ((k 28), 30, .inl f28))]) (w1 := []) hP hD [] [0, 1, 2, 3, 4, 5, 6, 7, 8] rfl rfl (by decide) (by decide) hk1 hFc hP1 hD1
                    have hK := (hK.sub (tys' := [((k 11), .object RX6), ((k 24), .int), ((k 25), .int), ((k 26), .int), ((k 27), .int), ((k 28), .int)]) [0, 1, 2, 3, 4, 5] rfl).app hK1
                    have hP : va_P (dC, dI) vwCl [(h0, .inr (11, [.ref (a 1), .ref (a 2), .ref (a 3), .ref (a 4), .ref (a 5), .ref (a 6), .ref (a 7), .int 0, .ref (a 8), .int 0])), ((a 1), .inr (1, [.ref (a 9), .int 0, .ref (a 10), .int 0, .ref (a 11), .int 0, .ref (a 12), .int 0])), ((a 11), .inl ((k 11), 30, .inr (.inr (.inr (.inr g11))))), ((a 3), .inr (3, [.ref (a 1), .ref (a 2), .int 0, .ref (a 20), .ref (a 21), .ref (a 22), .ref (a 23), .ref (a 24), .ref (a 25), .ref (a 26), .ref (a 27), .ref (a 28)])), ((a 24), .inl ((k 24), 30, .inl f24)), ((a 25), .inl ((k 25), 30, .inl f25)), ((a 26), .inl ((k 26), 30, .inl f26)), ((a 27), .inl ((k 27), 30, .inl f27)), ((a 28), .inl ((k 28), 30, .inl f28))] H := hP
                    have hD : va_D A [(h0, .inr (11, [.ref (a 1), .ref (a 2), .ref (a 3), .ref (a 4), .ref (a 5), .ref (a 6), .ref (a 7), .int 0, .ref (a 8), .int 0])), ((a 1), .inr (1, [.ref (a 9), .int 0, .ref (a 10), .int 0, .ref (a 11), .int 0, .ref (a 12), .int 0])), ((a 11), .inl ((k 11), 30, .inr (.inr (.inr (.inr g11))))), ((a 3), .inr (3, [.ref (a 1), .ref (a 2), .int 0, .ref (a 20), .ref (a 21), .ref (a 22), .ref (a 23), .ref (a 24), .ref (a 25), .ref (a 26), .ref (a 27), .ref (a 28)])), ((a 24), .inl ((k 24), 30, .inl f24)), ((a 25), .inl ((k 25), 30, .inl f25)), ((a 26), .inl ((k 26), 30, .inl f26)), ((a 27), .inl ((k 27), 30, .inl f27)), ((a 28), .inl ((k 28), 30, .inl f28))] := hD
                    have hK : va_K (dC, dI) vwCl [((k 11), .object RX6), ((k 24), .int), ((k 25), .int), ((k 26), .int), ((k 27), .int), ((k 28), .int)] s := hK
                    refine lv_if_eq (tgt := 109) hx hb dX11_piece_102 (by decide) (fun c_205 => absurd c_205 (by decide)) (fun c_205 => ?_)
                    refine lv_iconst (v := 1) hx hb dX11_piece_105 (by decide) ?_
                    refine lv_goto (tgt := 110) hx hb dX11_piece_106 (by decide) ?_
                    refine lv_istore (lv' := [(10, .int 1), (0, .ref h0), (1, .int p0), (2, .int p1), (3, .int p2), (4, .int p3), (5, .int p4), (6, .int p5), (7, .int p6), (8, .int p7), (9, .int p8)]) hx hb dX11_piece_110 hl (by decide) rfl (fun ls hl => ?_)
                    refine lv_iload hx hb dX11_piece_112 (lv_at hl 0 rfl) ?_
                    refine lv_if_eq (tgt := 129) hx hb dX11_piece_114 (by decide) (fun c_206 => absurd c_206 (by decide)) (fun c_206 => ?_)
                    refine lv_aload_n hx hb dX11_piece_117 rfl (lv_at hl 1 rfl) ?_
                    refine va_get (D := (dC, dI)) (ci := 11) (v := .ref (a 1)) (C := RX11) (T := TX11) (N := 10) hx hb hts (fun _ hh => (List.mem_cons_of_mem _ (List.mem_append_right _ (List.mem_append_right _ (List.mem_append_left _ hh))))) hown hK hP 0 rfl rfl 0 (by decide) (hts (.fieldLink RX11 10 "TypingPool" "book" "LTypingPool$Book;") (List.mem_cons_of_mem _ (List.mem_append_left _ (List.mem_of_getElem? (i := 6) rfl)))) (fun _ h9 => h9) rfl dX11_piece_118 ?_
                    refine va_get (D := (dC, dI)) (ci := 1) (v := .int 0) (C := RX1) (T := TX1) (N := 8) hx hb hts (fun _ hh => (List.mem_cons_of_mem _ (List.mem_append_right _ (List.mem_append_right _ (List.mem_append_right _ (List.mem_append_right _ (List.mem_append_left _ hh))))))) hown hK hP 1 rfl rfl 5 (by decide) (hts (.fieldLink RX11 112 "TypingPool$Book" "pieceCount" "I") (List.mem_cons_of_mem _ (List.mem_append_left _ (List.mem_of_getElem? (i := 7) rfl)))) (fun _ h9 => h9) rfl dX11_piece_121 ?_
                    refine lv_bipush (v := 30) hx hb dX11_piece_124 (by decide) ?_
                    refine lv_icmp_lt (tgt := 131) hx hb dX11_piece_126 (by decide) (fun c_207 => ?_) (fun c_207 => absurd c_207 (fun z => z (by decide)))
                    refine va_new (ci := 6) (fs := [.int 0, .int 0, .int 0, .int 0, .int 0, .int 0, .int 0, .int 0, .int 0, .int 0, .int 0]) (C := RX6) (T := TX6) (N := 11) hx hb hts (fun _ hh => (List.mem_cons_of_mem _ (List.mem_append_right _ (List.mem_append_right _ (List.mem_append_right _ (List.mem_append_right _ (List.mem_append_right _ (List.mem_append_left _ hh)))))))) tyX6 tyX6_ok hown (hts (.classLink RX11 115 RX6) (List.mem_cons_of_mem _ (List.mem_append_left _ (List.mem_of_getElem? (i := 8) rfl)))) (hts (.instantiable RX6 11) (List.mem_cons_of_mem _ (List.mem_append_left _ (List.mem_of_getElem? (i := 9) rfl)))) (hts (.initialized RX6) (List.mem_cons_of_mem _ (List.mem_append_left _ (List.mem_of_getElem? (i := 10) rfl)))) hK hP hD hS hA rfl (fun j hj => by rcases (show j = 0 ∨ j = 1 ∨ j = 2 ∨ j = 3 ∨ j = 4 ∨ j = 5 ∨ j = 6 ∨ j = 7 ∨ j = 8 ∨ j = 9 ∨ j = 10 by omega) with rfl | rfl | rfl | rfl | rfl | rfl | rfl | rfl | rfl | rfl | rfl <;> rfl) (Nat.le_of_ble_eq_true rfl) (Nat.le_of_ble_eq_true rfl) dX11_piece_131 (fun q_208 H hP hD hS => ?_)
                    refine W.widen (k := 1) (n := 11) (Nat.le_of_ble_eq_true rfl) (Nat.le_of_ble_eq_true rfl) ?_
                    have hP : va_P (dC, dI) vwCl [(h0, .inr (11, [.ref (a 1), .ref (a 2), .ref (a 3), .ref (a 4), .ref (a 5), .ref (a 6), .ref (a 7), .int 0, .ref (a 8), .int 0])), ((a 1), .inr (1, [.ref (a 9), .int 0, .ref (a 10), .int 0, .ref (a 11), .int 0, .ref (a 12), .int 0])), ((a 11), .inl ((k 11), 30, .inr (.inr (.inr (.inr g11))))), ((a 3), .inr (3, [.ref (a 1), .ref (a 2), .int 0, .ref (a 20), .ref (a 21), .ref (a 22), .ref (a 23), .ref (a 24), .ref (a 25), .ref (a 26), .ref (a 27), .ref (a 28)])), ((a 24), .inl ((k 24), 30, .inl f24)), ((a 25), .inl ((k 25), 30, .inl f25)), ((a 26), .inl ((k 26), 30, .inl f26)), ((a 27), .inl ((k 27), 30, .inl f27)), ((a 28), .inl ((k 28), 30, .inl f28)), (q_208, .inr (6, [.int 0, .int 0, .int 0, .int 0, .int 0, .int 0, .int 0, .int 0, .int 0, .int 0, .int 0]))] H := hP
                    have hD : va_D A [(h0, .inr (11, [.ref (a 1), .ref (a 2), .ref (a 3), .ref (a 4), .ref (a 5), .ref (a 6), .ref (a 7), .int 0, .ref (a 8), .int 0])), ((a 1), .inr (1, [.ref (a 9), .int 0, .ref (a 10), .int 0, .ref (a 11), .int 0, .ref (a 12), .int 0])), ((a 11), .inl ((k 11), 30, .inr (.inr (.inr (.inr g11))))), ((a 3), .inr (3, [.ref (a 1), .ref (a 2), .int 0, .ref (a 20), .ref (a 21), .ref (a 22), .ref (a 23), .ref (a 24), .ref (a 25), .ref (a 26), .ref (a 27), .ref (a 28)])), ((a 24), .inl ((k 24), 30, .inl f24)), ((a 25), .inl ((k 25), 30, .inl f25)), ((a 26), .inl ((k 26), 30, .inl f26)), ((a 27), .inl ((k 27), 30, .inl f27)), ((a 28), .inl ((k 28), 30, .inl f28)), (q_208, .inr (6, [.int 0, .int 0, .int 0, .int 0, .int 0, .int 0, .int 0, .int 0, .int 0, .int 0, .int 0]))] := hD
                    refine lv_dup hx hb dX11_piece_134 rfl ?_
                    have hPc := hP.sub (ws' := [(q_208, .inr (6, [.int 0, .int 0, .int 0, .int 0, .int 0, .int 0, .int 0, .int 0, .int 0, .int 0, .int 0]))]) [9] rfl
                    have hDc := hD.sub (ws' := [(q_208, .inr (6, [.int 0, .int 0, .int 0, .int 0, .int 0, .int 0, .int 0, .int 0, .int 0, .int 0, .int 0]))]) [9] (by decide) rfl
                    have hKc := hK.sub (tys' := []) [] rfl
                    have hFc := va_free (wc := [(q_208, .inr (6, [.int 0, .int 0, .int 0, .int 0, .int 0, .int 0, .int 0, .int 0, .int 0, .int 0, .int 0]))]) hD hS hA [9] rfl
                    refine va_callv (va_runIN (As := []) (rest := [.ref q_208]) ⟨hx, hb, hml, hown, hts⟩ (c_Piece_init l dC dI ad av H.size q_208 ) ⟨va_cnB 0 hts (gi_0  (fun _ hh => (List.mem_cons_of_mem _ (List.mem_append_right _ (List.mem_append_right _ (List.mem_append_right _ (List.mem_append_right _ (List.mem_append_right _ (List.mem_append_right _ (List.mem_append_left _ hh))))))))) gd_c_Piece_init) rfl rfl rfl hM.1.2.1 (hts (.initialized RX6) (List.mem_cons_of_mem _ (List.mem_append_left _ (List.mem_of_getElem? (i := 10) rfl)))) (by decide +kernel) ⟨Nat.le_of_ble_eq_true rfl, Nat.le_of_ble_eq_true rfl⟩, rfl, (hts (.instanceMethod yX6_init) (List.mem_cons_of_mem _ (List.mem_append_left _ (List.mem_of_getElem? (i := 11) rfl))))⟩ ⟨pr_blind, pr_use hPc hKc hDc hFc hS hM⟩ rfl rfl hl.1 rfl (lv_room (Nat.le_of_ble_eq_true rfl)) dX11_piece_135 ⟨Nat.le_of_ble_eq_true rfl, Nat.le_of_ble_eq_true rfl⟩) hS (fun q _ h => hFc q h) hFc (fun u t H locs ht hvm hw hB hz1 hk1 hS => ?_)
                    refine W.widen (k := 1) (n := 11) (Nat.le_of_ble_eq_true rfl) (Nat.le_of_ble_eq_true rfl) ?_
                    obtain ⟨hP1, hK1, hD1⟩ := hB
                    rw [ht] at hP1
                    have hK1 := va_K.moved hvm.symm hK1
                    obtain ⟨hP, hD⟩ := va_join (wr := [(h0, .inr (11, [.ref (a 1), .ref (a 2), .ref (a 3), .ref (a 4), .ref (a 5), .ref (a 6), .ref (a 7), .int 0, .ref (a 8), .int 0])), ((a 1), .inr (1, [.ref (a 9), .int 0, .ref (a 10), .int 0, .ref (a 11), .int 0, .ref (a 12), .int 0])), ((a 11), .inl ((k 11), 30, .inr (.inr (.inr (.inr g11))))), ((a 3), .inr (3, [.ref (a 1), .ref (a 2), .int 0, .ref (a 20), .ref (a 21), .ref (a 22), .ref (a 23), .ref (a 24), .ref (a 25), .ref (a 26), .ref (a 27), .ref (a 28)])), ((a 24), .inl ((k 24), 30, .inl f24)), ((a 25), .inl ((k 25), 30, .inl f25)), ((a 26), .inl ((k 26), 30, .inl f26)), ((a 27), .inl ((k 27), 30, .inl f27)), ((a 28), .inl ((k 28), 30, .inl f28))]) (w1 := [(q_208, .inr (6, [.int 0, .int 0, .int 0, .int 0, .int 0, .int 0, .int 0, .int 0, .int 0, .int 0, .int 0]))]) hP hD [9] [0, 1, 2, 3, 4, 5, 6, 7, 8] rfl rfl (by decide) (by decide) hk1 hFc hP1 hD1
                    have hK := (hK.sub (tys' := [((k 11), .object RX6), ((k 24), .int), ((k 25), .int), ((k 26), .int), ((k 27), .int), ((k 28), .int)]) [0, 1, 2, 3, 4, 5] rfl).app hK1
                    have hP : va_P (dC, dI) vwCl [(h0, .inr (11, [.ref (a 1), .ref (a 2), .ref (a 3), .ref (a 4), .ref (a 5), .ref (a 6), .ref (a 7), .int 0, .ref (a 8), .int 0])), ((a 1), .inr (1, [.ref (a 9), .int 0, .ref (a 10), .int 0, .ref (a 11), .int 0, .ref (a 12), .int 0])), ((a 11), .inl ((k 11), 30, .inr (.inr (.inr (.inr g11))))), ((a 3), .inr (3, [.ref (a 1), .ref (a 2), .int 0, .ref (a 20), .ref (a 21), .ref (a 22), .ref (a 23), .ref (a 24), .ref (a 25), .ref (a 26), .ref (a 27), .ref (a 28)])), ((a 24), .inl ((k 24), 30, .inl f24)), ((a 25), .inl ((k 25), 30, .inl f25)), ((a 26), .inl ((k 26), 30, .inl f26)), ((a 27), .inl ((k 27), 30, .inl f27)), ((a 28), .inl ((k 28), 30, .inl f28)), (q_208, .inr (6, [.int 0, .int 0, .int 0, .int 0, .int 0, .int 0, .int 0, .int 0, .int 0, .int 0, .int 0]))] H := hP
                    have hD : va_D A [(h0, .inr (11, [.ref (a 1), .ref (a 2), .ref (a 3), .ref (a 4), .ref (a 5), .ref (a 6), .ref (a 7), .int 0, .ref (a 8), .int 0])), ((a 1), .inr (1, [.ref (a 9), .int 0, .ref (a 10), .int 0, .ref (a 11), .int 0, .ref (a 12), .int 0])), ((a 11), .inl ((k 11), 30, .inr (.inr (.inr (.inr g11))))), ((a 3), .inr (3, [.ref (a 1), .ref (a 2), .int 0, .ref (a 20), .ref (a 21), .ref (a 22), .ref (a 23), .ref (a 24), .ref (a 25), .ref (a 26), .ref (a 27), .ref (a 28)])), ((a 24), .inl ((k 24), 30, .inl f24)), ((a 25), .inl ((k 25), 30, .inl f25)), ((a 26), .inl ((k 26), 30, .inl f26)), ((a 27), .inl ((k 27), 30, .inl f27)), ((a 28), .inl ((k 28), 30, .inl f28)), (q_208, .inr (6, [.int 0, .int 0, .int 0, .int 0, .int 0, .int 0, .int 0, .int 0, .int 0, .int 0, .int 0]))] := hD
                    have hK : va_K (dC, dI) vwCl [((k 11), .object RX6), ((k 24), .int), ((k 25), .int), ((k 26), .int), ((k 27), .int), ((k 28), .int)] s := hK
                    refine lv_astore (lv' := [(11, .ref q_208), (10, .int 1), (0, .ref h0), (1, .int p0), (2, .int p1), (3, .int p2), (4, .int p3), (5, .int p4), (6, .int p5), (7, .int p6), (8, .int p7), (9, .int p8)]) hx hb dX11_piece_138 hl (by decide) rfl (fun ls hl => ?_)
                    refine lv_aload hx hb dX11_piece_140 (lv_at hl 0 rfl) ?_
                    refine lv_iload_n hx hb dX11_piece_142 rfl (lv_at hl 3 rfl) ?_
                    refine va_put (D := (dC, dI)) (ci := 6) (v := .int p0) (ty := .int) (C := RX6) (T := TX6) (N := 11) hx hb hts (fun _ hh => (List.mem_cons_of_mem _ (List.mem_append_right _ (List.mem_append_right _ (List.mem_append_right _ (List.mem_append_right _ (List.mem_append_right _ (List.mem_append_left _ hh)))))))) tyX6 tyX6_ok nmX6 hown hK hP hD hS 9 rfl rfl 0 (by decide) (hts (.fieldLink RX11 118 "TypingPool$Piece" "department" "I") (List.mem_cons_of_mem _ (List.mem_append_left _ (List.mem_of_getElem? (i := 12) rfl)))) (fun _ h9 => h9) rfl (tyX6_ok 0 (by decide)) rfl rfl (Nat.le_of_ble_eq_true rfl) dX11_piece_143 (fun H locs hP hD hS => ?_)
                    have hP : va_P (dC, dI) vwCl [(h0, .inr (11, [.ref (a 1), .ref (a 2), .ref (a 3), .ref (a 4), .ref (a 5), .ref (a 6), .ref (a 7), .int 0, .ref (a 8), .int 0])), ((a 1), .inr (1, [.ref (a 9), .int 0, .ref (a 10), .int 0, .ref (a 11), .int 0, .ref (a 12), .int 0])), ((a 11), .inl ((k 11), 30, .inr (.inr (.inr (.inr g11))))), ((a 3), .inr (3, [.ref (a 1), .ref (a 2), .int 0, .ref (a 20), .ref (a 21), .ref (a 22), .ref (a 23), .ref (a 24), .ref (a 25), .ref (a 26), .ref (a 27), .ref (a 28)])), ((a 24), .inl ((k 24), 30, .inl f24)), ((a 25), .inl ((k 25), 30, .inl f25)), ((a 26), .inl ((k 26), 30, .inl f26)), ((a 27), .inl ((k 27), 30, .inl f27)), ((a 28), .inl ((k 28), 30, .inl f28)), (q_208, .inr (6, [.int p0, .int 0, .int 0, .int 0, .int 0, .int 0, .int 0, .int 0, .int 0, .int 0, .int 0]))] H := hP
                    have hD : va_D A [(h0, .inr (11, [.ref (a 1), .ref (a 2), .ref (a 3), .ref (a 4), .ref (a 5), .ref (a 6), .ref (a 7), .int 0, .ref (a 8), .int 0])), ((a 1), .inr (1, [.ref (a 9), .int 0, .ref (a 10), .int 0, .ref (a 11), .int 0, .ref (a 12), .int 0])), ((a 11), .inl ((k 11), 30, .inr (.inr (.inr (.inr g11))))), ((a 3), .inr (3, [.ref (a 1), .ref (a 2), .int 0, .ref (a 20), .ref (a 21), .ref (a 22), .ref (a 23), .ref (a 24), .ref (a 25), .ref (a 26), .ref (a 27), .ref (a 28)])), ((a 24), .inl ((k 24), 30, .inl f24)), ((a 25), .inl ((k 25), 30, .inl f25)), ((a 26), .inl ((k 26), 30, .inl f26)), ((a 27), .inl ((k 27), 30, .inl f27)), ((a 28), .inl ((k 28), 30, .inl f28)), (q_208, .inr (6, [.int p0, .int 0, .int 0, .int 0, .int 0, .int 0, .int 0, .int 0, .int 0, .int 0, .int 0]))] := hD
                    refine lv_aload hx hb dX11_piece_146 (lv_at hl 0 rfl) ?_
                    refine lv_iload_n hx hb dX11_piece_148 rfl (lv_at hl 4 rfl) ?_
                    refine va_put (D := (dC, dI)) (ci := 6) (v := .int p1) (ty := .int) (C := RX6) (T := TX6) (N := 11) hx hb hts (fun _ hh => (List.mem_cons_of_mem _ (List.mem_append_right _ (List.mem_append_right _ (List.mem_append_right _ (List.mem_append_right _ (List.mem_append_right _ (List.mem_append_left _ hh)))))))) tyX6 tyX6_ok nmX6 hown hK hP hD hS 9 rfl rfl 1 (by decide) (hts (.fieldLink RX11 121 "TypingPool$Piece" "style" "I") (List.mem_cons_of_mem _ (List.mem_append_left _ (List.mem_of_getElem? (i := 13) rfl)))) (fun _ h9 => h9) rfl (tyX6_ok 1 (by decide)) rfl rfl (Nat.le_of_ble_eq_true rfl) dX11_piece_149 (fun H locs hP hD hS => ?_)
                    have hP : va_P (dC, dI) vwCl [(h0, .inr (11, [.ref (a 1), .ref (a 2), .ref (a 3), .ref (a 4), .ref (a 5), .ref (a 6), .ref (a 7), .int 0, .ref (a 8), .int 0])), ((a 1), .inr (1, [.ref (a 9), .int 0, .ref (a 10), .int 0, .ref (a 11), .int 0, .ref (a 12), .int 0])), ((a 11), .inl ((k 11), 30, .inr (.inr (.inr (.inr g11))))), ((a 3), .inr (3, [.ref (a 1), .ref (a 2), .int 0, .ref (a 20), .ref (a 21), .ref (a 22), .ref (a 23), .ref (a 24), .ref (a 25), .ref (a 26), .ref (a 27), .ref (a 28)])), ((a 24), .inl ((k 24), 30, .inl f24)), ((a 25), .inl ((k 25), 30, .inl f25)), ((a 26), .inl ((k 26), 30, .inl f26)), ((a 27), .inl ((k 27), 30, .inl f27)), ((a 28), .inl ((k 28), 30, .inl f28)), (q_208, .inr (6, [.int p0, .int p1, .int 0, .int 0, .int 0, .int 0, .int 0, .int 0, .int 0, .int 0, .int 0]))] H := hP
                    have hD : va_D A [(h0, .inr (11, [.ref (a 1), .ref (a 2), .ref (a 3), .ref (a 4), .ref (a 5), .ref (a 6), .ref (a 7), .int 0, .ref (a 8), .int 0])), ((a 1), .inr (1, [.ref (a 9), .int 0, .ref (a 10), .int 0, .ref (a 11), .int 0, .ref (a 12), .int 0])), ((a 11), .inl ((k 11), 30, .inr (.inr (.inr (.inr g11))))), ((a 3), .inr (3, [.ref (a 1), .ref (a 2), .int 0, .ref (a 20), .ref (a 21), .ref (a 22), .ref (a 23), .ref (a 24), .ref (a 25), .ref (a 26), .ref (a 27), .ref (a 28)])), ((a 24), .inl ((k 24), 30, .inl f24)), ((a 25), .inl ((k 25), 30, .inl f25)), ((a 26), .inl ((k 26), 30, .inl f26)), ((a 27), .inl ((k 27), 30, .inl f27)), ((a 28), .inl ((k 28), 30, .inl f28)), (q_208, .inr (6, [.int p0, .int p1, .int 0, .int 0, .int 0, .int 0, .int 0, .int 0, .int 0, .int 0, .int 0]))] := hD
                    refine lv_aload hx hb dX11_piece_152 (lv_at hl 0 rfl) ?_
                    refine lv_iload_n hx hb dX11_piece_154 rfl (lv_at hl 5 rfl) ?_
                    refine va_put (D := (dC, dI)) (ci := 6) (v := .int p2) (ty := .int) (C := RX6) (T := TX6) (N := 11) hx hb hts (fun _ hh => (List.mem_cons_of_mem _ (List.mem_append_right _ (List.mem_append_right _ (List.mem_append_right _ (List.mem_append_right _ (List.mem_append_right _ (List.mem_append_left _ hh)))))))) tyX6 tyX6_ok nmX6 hown hK hP hD hS 9 rfl rfl 2 (by decide) (hts (.fieldLink RX11 124 "TypingPool$Piece" "lines" "I") (List.mem_cons_of_mem _ (List.mem_append_left _ (List.mem_of_getElem? (i := 14) rfl)))) (fun _ h9 => h9) rfl (tyX6_ok 2 (by decide)) rfl rfl (Nat.le_of_ble_eq_true rfl) dX11_piece_155 (fun H locs hP hD hS => ?_)
                    have hP : va_P (dC, dI) vwCl [(h0, .inr (11, [.ref (a 1), .ref (a 2), .ref (a 3), .ref (a 4), .ref (a 5), .ref (a 6), .ref (a 7), .int 0, .ref (a 8), .int 0])), ((a 1), .inr (1, [.ref (a 9), .int 0, .ref (a 10), .int 0, .ref (a 11), .int 0, .ref (a 12), .int 0])), ((a 11), .inl ((k 11), 30, .inr (.inr (.inr (.inr g11))))), ((a 3), .inr (3, [.ref (a 1), .ref (a 2), .int 0, .ref (a 20), .ref (a 21), .ref (a 22), .ref (a 23), .ref (a 24), .ref (a 25), .ref (a 26), .ref (a 27), .ref (a 28)])), ((a 24), .inl ((k 24), 30, .inl f24)), ((a 25), .inl ((k 25), 30, .inl f25)), ((a 26), .inl ((k 26), 30, .inl f26)), ((a 27), .inl ((k 27), 30, .inl f27)), ((a 28), .inl ((k 28), 30, .inl f28)), (q_208, .inr (6, [.int p0, .int p1, .int p2, .int 0, .int 0, .int 0, .int 0, .int 0, .int 0, .int 0, .int 0]))] H := hP
                    have hD : va_D A [(h0, .inr (11, [.ref (a 1), .ref (a 2), .ref (a 3), .ref (a 4), .ref (a 5), .ref (a 6), .ref (a 7), .int 0, .ref (a 8), .int 0])), ((a 1), .inr (1, [.ref (a 9), .int 0, .ref (a 10), .int 0, .ref (a 11), .int 0, .ref (a 12), .int 0])), ((a 11), .inl ((k 11), 30, .inr (.inr (.inr (.inr g11))))), ((a 3), .inr (3, [.ref (a 1), .ref (a 2), .int 0, .ref (a 20), .ref (a 21), .ref (a 22), .ref (a 23), .ref (a 24), .ref (a 25), .ref (a 26), .ref (a 27), .ref (a 28)])), ((a 24), .inl ((k 24), 30, .inl f24)), ((a 25), .inl ((k 25), 30, .inl f25)), ((a 26), .inl ((k 26), 30, .inl f26)), ((a 27), .inl ((k 27), 30, .inl f27)), ((a 28), .inl ((k 28), 30, .inl f28)), (q_208, .inr (6, [.int p0, .int p1, .int p2, .int 0, .int 0, .int 0, .int 0, .int 0, .int 0, .int 0, .int 0]))] := hD
                    refine lv_aload hx hb dX11_piece_158 (lv_at hl 0 rfl) ?_
                    refine lv_iload hx hb dX11_piece_160 (lv_at hl 6 rfl) ?_
                    refine va_put (D := (dC, dI)) (ci := 6) (v := .int p3) (ty := .int) (C := RX6) (T := TX6) (N := 11) hx hb hts (fun _ hh => (List.mem_cons_of_mem _ (List.mem_append_right _ (List.mem_append_right _ (List.mem_append_right _ (List.mem_append_right _ (List.mem_append_right _ (List.mem_append_left _ hh)))))))) tyX6 tyX6_ok nmX6 hown hK hP hD hS 9 rfl rfl 3 (by decide) (hts (.fieldLink RX11 127 "TypingPool$Piece" "secret" "I") (List.mem_cons_of_mem _ (List.mem_append_left _ (List.mem_of_getElem? (i := 15) rfl)))) (fun _ h9 => h9) rfl (tyX6_ok 3 (by decide)) rfl rfl (Nat.le_of_ble_eq_true rfl) dX11_piece_162 (fun H locs hP hD hS => ?_)
                    have hP : va_P (dC, dI) vwCl [(h0, .inr (11, [.ref (a 1), .ref (a 2), .ref (a 3), .ref (a 4), .ref (a 5), .ref (a 6), .ref (a 7), .int 0, .ref (a 8), .int 0])), ((a 1), .inr (1, [.ref (a 9), .int 0, .ref (a 10), .int 0, .ref (a 11), .int 0, .ref (a 12), .int 0])), ((a 11), .inl ((k 11), 30, .inr (.inr (.inr (.inr g11))))), ((a 3), .inr (3, [.ref (a 1), .ref (a 2), .int 0, .ref (a 20), .ref (a 21), .ref (a 22), .ref (a 23), .ref (a 24), .ref (a 25), .ref (a 26), .ref (a 27), .ref (a 28)])), ((a 24), .inl ((k 24), 30, .inl f24)), ((a 25), .inl ((k 25), 30, .inl f25)), ((a 26), .inl ((k 26), 30, .inl f26)), ((a 27), .inl ((k 27), 30, .inl f27)), ((a 28), .inl ((k 28), 30, .inl f28)), (q_208, .inr (6, [.int p0, .int p1, .int p2, .int p3, .int 0, .int 0, .int 0, .int 0, .int 0, .int 0, .int 0]))] H := hP
                    have hD : va_D A [(h0, .inr (11, [.ref (a 1), .ref (a 2), .ref (a 3), .ref (a 4), .ref (a 5), .ref (a 6), .ref (a 7), .int 0, .ref (a 8), .int 0])), ((a 1), .inr (1, [.ref (a 9), .int 0, .ref (a 10), .int 0, .ref (a 11), .int 0, .ref (a 12), .int 0])), ((a 11), .inl ((k 11), 30, .inr (.inr (.inr (.inr g11))))), ((a 3), .inr (3, [.ref (a 1), .ref (a 2), .int 0, .ref (a 20), .ref (a 21), .ref (a 22), .ref (a 23), .ref (a 24), .ref (a 25), .ref (a 26), .ref (a 27), .ref (a 28)])), ((a 24), .inl ((k 24), 30, .inl f24)), ((a 25), .inl ((k 25), 30, .inl f25)), ((a 26), .inl ((k 26), 30, .inl f26)), ((a 27), .inl ((k 27), 30, .inl f27)), ((a 28), .inl ((k 28), 30, .inl f28)), (q_208, .inr (6, [.int p0, .int p1, .int p2, .int p3, .int 0, .int 0, .int 0, .int 0, .int 0, .int 0, .int 0]))] := hD
                    refine lv_aload hx hb dX11_piece_165 (lv_at hl 0 rfl) ?_
                    refine lv_iload hx hb dX11_piece_167 (lv_at hl 7 rfl) ?_
                    refine va_put (D := (dC, dI)) (ci := 6) (v := .int p4) (ty := .int) (C := RX6) (T := TX6) (N := 11) hx hb hts (fun _ hh => (List.mem_cons_of_mem _ (List.mem_append_right _ (List.mem_append_right _ (List.mem_append_right _ (List.mem_append_right _ (List.mem_append_right _ (List.mem_append_left _ hh)))))))) tyX6 tyX6_ok nmX6 hown hK hP hD hS 9 rfl rfl 4 (by decide) (hts (.fieldLink RX11 130 "TypingPool$Piece" "claim" "I") (List.mem_cons_of_mem _ (List.mem_append_left _ (List.mem_of_getElem? (i := 16) rfl)))) (fun _ h9 => h9) rfl (tyX6_ok 4 (by decide)) rfl rfl (Nat.le_of_ble_eq_true rfl) dX11_piece_169 (fun H locs hP hD hS => ?_)
                    have hP : va_P (dC, dI) vwCl [(h0, .inr (11, [.ref (a 1), .ref (a 2), .ref (a 3), .ref (a 4), .ref (a 5), .ref (a 6), .ref (a 7), .int 0, .ref (a 8), .int 0])), ((a 1), .inr (1, [.ref (a 9), .int 0, .ref (a 10), .int 0, .ref (a 11), .int 0, .ref (a 12), .int 0])), ((a 11), .inl ((k 11), 30, .inr (.inr (.inr (.inr g11))))), ((a 3), .inr (3, [.ref (a 1), .ref (a 2), .int 0, .ref (a 20), .ref (a 21), .ref (a 22), .ref (a 23), .ref (a 24), .ref (a 25), .ref (a 26), .ref (a 27), .ref (a 28)])), ((a 24), .inl ((k 24), 30, .inl f24)), ((a 25), .inl ((k 25), 30, .inl f25)), ((a 26), .inl ((k 26), 30, .inl f26)), ((a 27), .inl ((k 27), 30, .inl f27)), ((a 28), .inl ((k 28), 30, .inl f28)), (q_208, .inr (6, [.int p0, .int p1, .int p2, .int p3, .int p4, .int 0, .int 0, .int 0, .int 0, .int 0, .int 0]))] H := hP
                    have hD : va_D A [(h0, .inr (11, [.ref (a 1), .ref (a 2), .ref (a 3), .ref (a 4), .ref (a 5), .ref (a 6), .ref (a 7), .int 0, .ref (a 8), .int 0])), ((a 1), .inr (1, [.ref (a 9), .int 0, .ref (a 10), .int 0, .ref (a 11), .int 0, .ref (a 12), .int 0])), ((a 11), .inl ((k 11), 30, .inr (.inr (.inr (.inr g11))))), ((a 3), .inr (3, [.ref (a 1), .ref (a 2), .int 0, .ref (a 20), .ref (a 21), .ref (a 22), .ref (a 23), .ref (a 24), .ref (a 25), .ref (a 26), .ref (a 27), .ref (a 28)])), ((a 24), .inl ((k 24), 30, .inl f24)), ((a 25), .inl ((k 25), 30, .inl f25)), ((a 26), .inl ((k 26), 30, .inl f26)), ((a 27), .inl ((k 27), 30, .inl f27)), ((a 28), .inl ((k 28), 30, .inl f28)), (q_208, .inr (6, [.int p0, .int p1, .int p2, .int p3, .int p4, .int 0, .int 0, .int 0, .int 0, .int 0, .int 0]))] := hD
                    refine lv_aload hx hb dX11_piece_172 (lv_at hl 0 rfl) ?_
                    refine lv_iload hx hb dX11_piece_174 (lv_at hl 8 rfl) ?_
                    refine va_put (D := (dC, dI)) (ci := 6) (v := .int p5) (ty := .int) (C := RX6) (T := TX6) (N := 11) hx hb hts (fun _ hh => (List.mem_cons_of_mem _ (List.mem_append_right _ (List.mem_append_right _ (List.mem_append_right _ (List.mem_append_right _ (List.mem_append_right _ (List.mem_append_left _ hh)))))))) tyX6 tyX6_ok nmX6 hown hK hP hD hS 9 rfl rfl 5 (by decide) (hts (.fieldLink RX11 133 "TypingPool$Piece" "comes" "I") (List.mem_cons_of_mem _ (List.mem_append_left _ (List.mem_of_getElem? (i := 17) rfl)))) (fun _ h9 => h9) rfl (tyX6_ok 5 (by decide)) rfl rfl (Nat.le_of_ble_eq_true rfl) dX11_piece_176 (fun H locs hP hD hS => ?_)
                    have hP : va_P (dC, dI) vwCl [(h0, .inr (11, [.ref (a 1), .ref (a 2), .ref (a 3), .ref (a 4), .ref (a 5), .ref (a 6), .ref (a 7), .int 0, .ref (a 8), .int 0])), ((a 1), .inr (1, [.ref (a 9), .int 0, .ref (a 10), .int 0, .ref (a 11), .int 0, .ref (a 12), .int 0])), ((a 11), .inl ((k 11), 30, .inr (.inr (.inr (.inr g11))))), ((a 3), .inr (3, [.ref (a 1), .ref (a 2), .int 0, .ref (a 20), .ref (a 21), .ref (a 22), .ref (a 23), .ref (a 24), .ref (a 25), .ref (a 26), .ref (a 27), .ref (a 28)])), ((a 24), .inl ((k 24), 30, .inl f24)), ((a 25), .inl ((k 25), 30, .inl f25)), ((a 26), .inl ((k 26), 30, .inl f26)), ((a 27), .inl ((k 27), 30, .inl f27)), ((a 28), .inl ((k 28), 30, .inl f28)), (q_208, .inr (6, [.int p0, .int p1, .int p2, .int p3, .int p4, .int p5, .int 0, .int 0, .int 0, .int 0, .int 0]))] H := hP
                    have hD : va_D A [(h0, .inr (11, [.ref (a 1), .ref (a 2), .ref (a 3), .ref (a 4), .ref (a 5), .ref (a 6), .ref (a 7), .int 0, .ref (a 8), .int 0])), ((a 1), .inr (1, [.ref (a 9), .int 0, .ref (a 10), .int 0, .ref (a 11), .int 0, .ref (a 12), .int 0])), ((a 11), .inl ((k 11), 30, .inr (.inr (.inr (.inr g11))))), ((a 3), .inr (3, [.ref (a 1), .ref (a 2), .int 0, .ref (a 20), .ref (a 21), .ref (a 22), .ref (a 23), .ref (a 24), .ref (a 25), .ref (a 26), .ref (a 27), .ref (a 28)])), ((a 24), .inl ((k 24), 30, .inl f24)), ((a 25), .inl ((k 25), 30, .inl f25)), ((a 26), .inl ((k 26), 30, .inl f26)), ((a 27), .inl ((k 27), 30, .inl f27)), ((a 28), .inl ((k 28), 30, .inl f28)), (q_208, .inr (6, [.int p0, .int p1, .int p2, .int p3, .int p4, .int p5, .int 0, .int 0, .int 0, .int 0, .int 0]))] := hD
                    refine lv_aload hx hb dX11_piece_179 (lv_at hl 0 rfl) ?_
                    refine lv_iload hx hb dX11_piece_181 (lv_at hl 9 rfl) ?_
                    refine va_put (D := (dC, dI)) (ci := 6) (v := .int p6) (ty := .int) (C := RX6) (T := TX6) (N := 11) hx hb hts (fun _ hh => (List.mem_cons_of_mem _ (List.mem_append_right _ (List.mem_append_right _ (List.mem_append_right _ (List.mem_append_right _ (List.mem_append_right _ (List.mem_append_left _ hh)))))))) tyX6 tyX6_ok nmX6 hown hK hP hD hS 9 rfl rfl 6 (by decide) (hts (.fieldLink RX11 136 "TypingPool$Piece" "due" "I") (List.mem_cons_of_mem _ (List.mem_append_left _ (List.mem_of_getElem? (i := 18) rfl)))) (fun _ h9 => h9) rfl (tyX6_ok 6 (by decide)) rfl rfl (Nat.le_of_ble_eq_true rfl) dX11_piece_183 (fun H locs hP hD hS => ?_)
                    have hP : va_P (dC, dI) vwCl [(h0, .inr (11, [.ref (a 1), .ref (a 2), .ref (a 3), .ref (a 4), .ref (a 5), .ref (a 6), .ref (a 7), .int 0, .ref (a 8), .int 0])), ((a 1), .inr (1, [.ref (a 9), .int 0, .ref (a 10), .int 0, .ref (a 11), .int 0, .ref (a 12), .int 0])), ((a 11), .inl ((k 11), 30, .inr (.inr (.inr (.inr g11))))), ((a 3), .inr (3, [.ref (a 1), .ref (a 2), .int 0, .ref (a 20), .ref (a 21), .ref (a 22), .ref (a 23), .ref (a 24), .ref (a 25), .ref (a 26), .ref (a 27), .ref (a 28)])), ((a 24), .inl ((k 24), 30, .inl f24)), ((a 25), .inl ((k 25), 30, .inl f25)), ((a 26), .inl ((k 26), 30, .inl f26)), ((a 27), .inl ((k 27), 30, .inl f27)), ((a 28), .inl ((k 28), 30, .inl f28)), (q_208, .inr (6, [.int p0, .int p1, .int p2, .int p3, .int p4, .int p5, .int p6, .int 0, .int 0, .int 0, .int 0]))] H := hP
                    have hD : va_D A [(h0, .inr (11, [.ref (a 1), .ref (a 2), .ref (a 3), .ref (a 4), .ref (a 5), .ref (a 6), .ref (a 7), .int 0, .ref (a 8), .int 0])), ((a 1), .inr (1, [.ref (a 9), .int 0, .ref (a 10), .int 0, .ref (a 11), .int 0, .ref (a 12), .int 0])), ((a 11), .inl ((k 11), 30, .inr (.inr (.inr (.inr g11))))), ((a 3), .inr (3, [.ref (a 1), .ref (a 2), .int 0, .ref (a 20), .ref (a 21), .ref (a 22), .ref (a 23), .ref (a 24), .ref (a 25), .ref (a 26), .ref (a 27), .ref (a 28)])), ((a 24), .inl ((k 24), 30, .inl f24)), ((a 25), .inl ((k 25), 30, .inl f25)), ((a 26), .inl ((k 26), 30, .inl f26)), ((a 27), .inl ((k 27), 30, .inl f27)), ((a 28), .inl ((k 28), 30, .inl f28)), (q_208, .inr (6, [.int p0, .int p1, .int p2, .int p3, .int p4, .int p5, .int p6, .int 0, .int 0, .int 0, .int 0]))] := hD
                    refine lv_aload hx hb dX11_piece_186 (lv_at hl 0 rfl) ?_
                    refine lv_iload hx hb dX11_piece_188 (lv_at hl 10 rfl) ?_
                    refine va_put (D := (dC, dI)) (ci := 6) (v := .int p7) (ty := .int) (C := RX6) (T := TX6) (N := 11) hx hb hts (fun _ hh => (List.mem_cons_of_mem _ (List.mem_append_right _ (List.mem_append_right _ (List.mem_append_right _ (List.mem_append_right _ (List.mem_append_right _ (List.mem_append_left _ hh)))))))) tyX6 tyX6_ok nmX6 hown hK hP hD hS 9 rfl rfl 7 (by decide) (hts (.fieldLink RX11 139 "TypingPool$Piece" "words" "I") (List.mem_cons_of_mem _ (List.mem_append_left _ (List.mem_of_getElem? (i := 19) rfl)))) (fun _ h9 => h9) rfl (tyX6_ok 7 (by decide)) rfl rfl (Nat.le_of_ble_eq_true rfl) dX11_piece_190 (fun H locs hP hD hS => ?_)
                    have hP : va_P (dC, dI) vwCl [(h0, .inr (11, [.ref (a 1), .ref (a 2), .ref (a 3), .ref (a 4), .ref (a 5), .ref (a 6), .ref (a 7), .int 0, .ref (a 8), .int 0])), ((a 1), .inr (1, [.ref (a 9), .int 0, .ref (a 10), .int 0, .ref (a 11), .int 0, .ref (a 12), .int 0])), ((a 11), .inl ((k 11), 30, .inr (.inr (.inr (.inr g11))))), ((a 3), .inr (3, [.ref (a 1), .ref (a 2), .int 0, .ref (a 20), .ref (a 21), .ref (a 22), .ref (a 23), .ref (a 24), .ref (a 25), .ref (a 26), .ref (a 27), .ref (a 28)])), ((a 24), .inl ((k 24), 30, .inl f24)), ((a 25), .inl ((k 25), 30, .inl f25)), ((a 26), .inl ((k 26), 30, .inl f26)), ((a 27), .inl ((k 27), 30, .inl f27)), ((a 28), .inl ((k 28), 30, .inl f28)), (q_208, .inr (6, [.int p0, .int p1, .int p2, .int p3, .int p4, .int p5, .int p6, .int p7, .int 0, .int 0, .int 0]))] H := hP
                    have hD : va_D A [(h0, .inr (11, [.ref (a 1), .ref (a 2), .ref (a 3), .ref (a 4), .ref (a 5), .ref (a 6), .ref (a 7), .int 0, .ref (a 8), .int 0])), ((a 1), .inr (1, [.ref (a 9), .int 0, .ref (a 10), .int 0, .ref (a 11), .int 0, .ref (a 12), .int 0])), ((a 11), .inl ((k 11), 30, .inr (.inr (.inr (.inr g11))))), ((a 3), .inr (3, [.ref (a 1), .ref (a 2), .int 0, .ref (a 20), .ref (a 21), .ref (a 22), .ref (a 23), .ref (a 24), .ref (a 25), .ref (a 26), .ref (a 27), .ref (a 28)])), ((a 24), .inl ((k 24), 30, .inl f24)), ((a 25), .inl ((k 25), 30, .inl f25)), ((a 26), .inl ((k 26), 30, .inl f26)), ((a 27), .inl ((k 27), 30, .inl f27)), ((a 28), .inl ((k 28), 30, .inl f28)), (q_208, .inr (6, [.int p0, .int p1, .int p2, .int p3, .int p4, .int p5, .int p6, .int p7, .int 0, .int 0, .int 0]))] := hD
                    refine lv_aload hx hb dX11_piece_193 (lv_at hl 0 rfl) ?_
                    refine lv_iload hx hb dX11_piece_195 (lv_at hl 11 rfl) ?_
                    refine va_put (D := (dC, dI)) (ci := 6) (v := .int p8) (ty := .int) (C := RX6) (T := TX6) (N := 11) hx hb hts (fun _ hh => (List.mem_cons_of_mem _ (List.mem_append_right _ (List.mem_append_right _ (List.mem_append_right _ (List.mem_append_right _ (List.mem_append_right _ (List.mem_append_left _ hh)))))))) tyX6 tyX6_ok nmX6 hown hK hP hD hS 9 rfl rfl 8 (by decide) (hts (.fieldLink RX11 142 "TypingPool$Piece" "copies" "I") (List.mem_cons_of_mem _ (List.mem_append_left _ (List.mem_of_getElem? (i := 20) rfl)))) (fun _ h9 => h9) rfl (tyX6_ok 8 (by decide)) rfl rfl (Nat.le_of_ble_eq_true rfl) dX11_piece_197 (fun H locs hP hD hS => ?_)
                    have hP : va_P (dC, dI) vwCl [(h0, .inr (11, [.ref (a 1), .ref (a 2), .ref (a 3), .ref (a 4), .ref (a 5), .ref (a 6), .ref (a 7), .int 0, .ref (a 8), .int 0])), ((a 1), .inr (1, [.ref (a 9), .int 0, .ref (a 10), .int 0, .ref (a 11), .int 0, .ref (a 12), .int 0])), ((a 11), .inl ((k 11), 30, .inr (.inr (.inr (.inr g11))))), ((a 3), .inr (3, [.ref (a 1), .ref (a 2), .int 0, .ref (a 20), .ref (a 21), .ref (a 22), .ref (a 23), .ref (a 24), .ref (a 25), .ref (a 26), .ref (a 27), .ref (a 28)])), ((a 24), .inl ((k 24), 30, .inl f24)), ((a 25), .inl ((k 25), 30, .inl f25)), ((a 26), .inl ((k 26), 30, .inl f26)), ((a 27), .inl ((k 27), 30, .inl f27)), ((a 28), .inl ((k 28), 30, .inl f28)), (q_208, .inr (6, [.int p0, .int p1, .int p2, .int p3, .int p4, .int p5, .int p6, .int p7, .int p8, .int 0, .int 0]))] H := hP
                    have hD : va_D A [(h0, .inr (11, [.ref (a 1), .ref (a 2), .ref (a 3), .ref (a 4), .ref (a 5), .ref (a 6), .ref (a 7), .int 0, .ref (a 8), .int 0])), ((a 1), .inr (1, [.ref (a 9), .int 0, .ref (a 10), .int 0, .ref (a 11), .int 0, .ref (a 12), .int 0])), ((a 11), .inl ((k 11), 30, .inr (.inr (.inr (.inr g11))))), ((a 3), .inr (3, [.ref (a 1), .ref (a 2), .int 0, .ref (a 20), .ref (a 21), .ref (a 22), .ref (a 23), .ref (a 24), .ref (a 25), .ref (a 26), .ref (a 27), .ref (a 28)])), ((a 24), .inl ((k 24), 30, .inl f24)), ((a 25), .inl ((k 25), 30, .inl f25)), ((a 26), .inl ((k 26), 30, .inl f26)), ((a 27), .inl ((k 27), 30, .inl f27)), ((a 28), .inl ((k 28), 30, .inl f28)), (q_208, .inr (6, [.int p0, .int p1, .int p2, .int p3, .int p4, .int p5, .int p6, .int p7, .int p8, .int 0, .int 0]))] := hD
                    refine lv_aload_n hx hb dX11_piece_200 rfl (lv_at hl 2 rfl) ?_
                    refine va_get (D := (dC, dI)) (ci := 11) (v := .ref (a 1)) (C := RX11) (T := TX11) (N := 10) hx hb hts (fun _ hh => (List.mem_cons_of_mem _ (List.mem_append_right _ (List.mem_append_right _ (List.mem_append_left _ hh))))) hown hK hP 0 rfl rfl 0 (by decide) (hts (.fieldLink RX11 10 "TypingPool" "book" "LTypingPool$Book;") (List.mem_cons_of_mem _ (List.mem_append_left _ (List.mem_of_getElem? (i := 6) rfl)))) (fun _ h9 => h9) rfl dX11_piece_201 ?_
                    refine va_get (D := (dC, dI)) (ci := 1) (v := .int 0) (C := RX1) (T := TX1) (N := 8) hx hb hts (fun _ hh => (List.mem_cons_of_mem _ (List.mem_append_right _ (List.mem_append_right _ (List.mem_append_right _ (List.mem_append_right _ (List.mem_append_left _ hh))))))) hown hK hP 1 rfl rfl 5 (by decide) (hts (.fieldLink RX11 112 "TypingPool$Book" "pieceCount" "I") (List.mem_cons_of_mem _ (List.mem_append_left _ (List.mem_of_getElem? (i := 7) rfl)))) (fun _ h9 => h9) rfl dX11_piece_204 ?_
                    refine lv_istore (lv' := [(12, .int 0), (11, .ref q_208), (10, .int 1), (0, .ref h0), (1, .int p0), (2, .int p1), (3, .int p2), (4, .int p3), (5, .int p4), (6, .int p5), (7, .int p6), (8, .int p7), (9, .int p8)]) hx hb dX11_piece_207 hl (by decide) rfl (fun ls hl => ?_)
                    refine lv_aload_n hx hb dX11_piece_209 rfl (lv_at hl 3 rfl) ?_
                    refine va_get (D := (dC, dI)) (ci := 11) (v := .ref (a 1)) (C := RX11) (T := TX11) (N := 10) hx hb hts (fun _ hh => (List.mem_cons_of_mem _ (List.mem_append_right _ (List.mem_append_right _ (List.mem_append_left _ hh))))) hown hK hP 0 rfl rfl 0 (by decide) (hts (.fieldLink RX11 10 "TypingPool" "book" "LTypingPool$Book;") (List.mem_cons_of_mem _ (List.mem_append_left _ (List.mem_of_getElem? (i := 6) rfl)))) (fun _ h9 => h9) rfl dX11_piece_210 ?_
                    refine va_get (D := (dC, dI)) (ci := 1) (v := .ref (a 11)) (C := RX1) (T := TX1) (N := 8) hx hb hts (fun _ hh => (List.mem_cons_of_mem _ (List.mem_append_right _ (List.mem_append_right _ (List.mem_append_right _ (List.mem_append_right _ (List.mem_append_left _ hh))))))) hown hK hP 1 rfl rfl 4 (by decide) (hts (.fieldLink RX11 145 "TypingPool$Book" "pieces" "[LTypingPool$Piece;") (List.mem_cons_of_mem _ (List.mem_append_left _ (List.mem_of_getElem? (i := 21) rfl)))) (fun _ h9 => h9) rfl dX11_piece_213 ?_
                    refine lv_iload hx hb dX11_piece_216 (lv_at hl 0 rfl) ?_
                    refine lv_aload hx hb dX11_piece_218 (lv_at hl 1 rfl) ?_
                    refine va_astq hx hb hK hP hD hS 2 0 9 6 rfl rfl rfl rfl (by unfold vp_in; decide) dX11_piece_220 (fun H locs hP hD hS => ?_)
                    obtain ⟨g_211, eg_211⟩ : ∃ y : Nat → Option Nat, y = va_up g11 (0 : Int32).toNatClampNeg (some q_208) := ⟨_, rfl⟩
                    have hP : va_P (dC, dI) vwCl [(h0, .inr (11, [.ref (a 1), .ref (a 2), .ref (a 3), .ref (a 4), .ref (a 5), .ref (a 6), .ref (a 7), .int 0, .ref (a 8), .int 0])), ((a 1), .inr (1, [.ref (a 9), .int 0, .ref (a 10), .int 0, .ref (a 11), .int 0, .ref (a 12), .int 0])), ((a 11), .inl ((k 11), 30, .inr (.inr (.inr (.inr g_211))))), ((a 3), .inr (3, [.ref (a 1), .ref (a 2), .int 0, .ref (a 20), .ref (a 21), .ref (a 22), .ref (a 23), .ref (a 24), .ref (a 25), .ref (a 26), .ref (a 27), .ref (a 28)])), ((a 24), .inl ((k 24), 30, .inl f24)), ((a 25), .inl ((k 25), 30, .inl f25)), ((a 26), .inl ((k 26), 30, .inl f26)), ((a 27), .inl ((k 27), 30, .inl f27)), ((a 28), .inl ((k 28), 30, .inl f28)), (q_208, .inr (6, [.int p0, .int p1, .int p2, .int p3, .int p4, .int p5, .int p6, .int p7, .int p8, .int 0, .int 0]))] H := by rw [eg_211]; exact hP
                    have hD : va_D A [(h0, .inr (11, [.ref (a 1), .ref (a 2), .ref (a 3), .ref (a 4), .ref (a 5), .ref (a 6), .ref (a 7), .int 0, .ref (a 8), .int 0])), ((a 1), .inr (1, [.ref (a 9), .int 0, .ref (a 10), .int 0, .ref (a 11), .int 0, .ref (a 12), .int 0])), ((a 11), .inl ((k 11), 30, .inr (.inr (.inr (.inr g_211))))), ((a 3), .inr (3, [.ref (a 1), .ref (a 2), .int 0, .ref (a 20), .ref (a 21), .ref (a 22), .ref (a 23), .ref (a 24), .ref (a 25), .ref (a 26), .ref (a 27), .ref (a 28)])), ((a 24), .inl ((k 24), 30, .inl f24)), ((a 25), .inl ((k 25), 30, .inl f25)), ((a 26), .inl ((k 26), 30, .inl f26)), ((a 27), .inl ((k 27), 30, .inl f27)), ((a 28), .inl ((k 28), 30, .inl f28)), (q_208, .inr (6, [.int p0, .int p1, .int p2, .int p3, .int p4, .int p5, .int p6, .int p7, .int p8, .int 0, .int 0]))] := by rw [eg_211]; exact hD
                    refine lv_aload_n hx hb dX11_piece_221 rfl (lv_at hl 3 rfl) ?_
                    refine va_get (D := (dC, dI)) (ci := 11) (v := .ref (a 1)) (C := RX11) (T := TX11) (N := 10) hx hb hts (fun _ hh => (List.mem_cons_of_mem _ (List.mem_append_right _ (List.mem_append_right _ (List.mem_append_left _ hh))))) hown hK hP 0 rfl rfl 0 (by decide) (hts (.fieldLink RX11 10 "TypingPool" "book" "LTypingPool$Book;") (List.mem_cons_of_mem _ (List.mem_append_left _ (List.mem_of_getElem? (i := 6) rfl)))) (fun _ h9 => h9) rfl dX11_piece_222 ?_
                    refine lv_dup hx hb dX11_piece_225 rfl ?_
                    refine va_get (D := (dC, dI)) (ci := 1) (v := .int 0) (C := RX1) (T := TX1) (N := 8) hx hb hts (fun _ hh => (List.mem_cons_of_mem _ (List.mem_append_right _ (List.mem_append_right _ (List.mem_append_right _ (List.mem_append_right _ (List.mem_append_left _ hh))))))) hown hK hP 1 rfl rfl 5 (by decide) (hts (.fieldLink RX11 112 "TypingPool$Book" "pieceCount" "I") (List.mem_cons_of_mem _ (List.mem_append_left _ (List.mem_of_getElem? (i := 7) rfl)))) (fun _ h9 => h9) rfl dX11_piece_226 ?_
                    refine lv_iconst (v := 1) hx hb dX11_piece_229 (by decide) ?_
                    refine lv_iadd hx hb dX11_piece_230 ?_
                    refine lq_top (v := 1) (by decide) ?_
                    refine va_put (D := (dC, dI)) (ci := 1) (v := .int 1) (ty := .int) (C := RX1) (T := TX1) (N := 8) hx hb hts (fun _ hh => (List.mem_cons_of_mem _ (List.mem_append_right _ (List.mem_append_right _ (List.mem_append_right _ (List.mem_append_right _ (List.mem_append_left _ hh))))))) tyX1 tyX1_ok nmX1 hown hK hP hD hS 1 rfl rfl 5 (by decide) (hts (.fieldLink RX11 112 "TypingPool$Book" "pieceCount" "I") (List.mem_cons_of_mem _ (List.mem_append_left _ (List.mem_of_getElem? (i := 7) rfl)))) (fun _ h9 => h9) rfl (tyX1_ok 5 (by decide)) rfl rfl (Nat.le_of_ble_eq_true rfl) dX11_piece_231 (fun H locs hP hD hS => ?_)
                    have hP : va_P (dC, dI) vwCl [(h0, .inr (11, [.ref (a 1), .ref (a 2), .ref (a 3), .ref (a 4), .ref (a 5), .ref (a 6), .ref (a 7), .int 0, .ref (a 8), .int 0])), ((a 1), .inr (1, [.ref (a 9), .int 0, .ref (a 10), .int 0, .ref (a 11), .int 1, .ref (a 12), .int 0])), ((a 11), .inl ((k 11), 30, .inr (.inr (.inr (.inr g_211))))), ((a 3), .inr (3, [.ref (a 1), .ref (a 2), .int 0, .ref (a 20), .ref (a 21), .ref (a 22), .ref (a 23), .ref (a 24), .ref (a 25), .ref (a 26), .ref (a 27), .ref (a 28)])), ((a 24), .inl ((k 24), 30, .inl f24)), ((a 25), .inl ((k 25), 30, .inl f25)), ((a 26), .inl ((k 26), 30, .inl f26)), ((a 27), .inl ((k 27), 30, .inl f27)), ((a 28), .inl ((k 28), 30, .inl f28)), (q_208, .inr (6, [.int p0, .int p1, .int p2, .int p3, .int p4, .int p5, .int p6, .int p7, .int p8, .int 0, .int 0]))] H := hP
                    have hD : va_D A [(h0, .inr (11, [.ref (a 1), .ref (a 2), .ref (a 3), .ref (a 4), .ref (a 5), .ref (a 6), .ref (a 7), .int 0, .ref (a 8), .int 0])), ((a 1), .inr (1, [.ref (a 9), .int 0, .ref (a 10), .int 0, .ref (a 11), .int 1, .ref (a 12), .int 0])), ((a 11), .inl ((k 11), 30, .inr (.inr (.inr (.inr g_211))))), ((a 3), .inr (3, [.ref (a 1), .ref (a 2), .int 0, .ref (a 20), .ref (a 21), .ref (a 22), .ref (a 23), .ref (a 24), .ref (a 25), .ref (a 26), .ref (a 27), .ref (a 28)])), ((a 24), .inl ((k 24), 30, .inl f24)), ((a 25), .inl ((k 25), 30, .inl f25)), ((a 26), .inl ((k 26), 30, .inl f26)), ((a 27), .inl ((k 27), 30, .inl f27)), ((a 28), .inl ((k 28), 30, .inl f28)), (q_208, .inr (6, [.int p0, .int p1, .int p2, .int p3, .int p4, .int p5, .int p6, .int p7, .int p8, .int 0, .int 0]))] := hD
                    refine lv_aload_n hx hb dX11_piece_234 rfl (lv_at hl 3 rfl) ?_
                    refine va_get (D := (dC, dI)) (ci := 11) (v := .ref (a 3)) (C := RX11) (T := TX11) (N := 10) hx hb hts (fun _ hh => (List.mem_cons_of_mem _ (List.mem_append_right _ (List.mem_append_right _ (List.mem_append_left _ hh))))) hown hK hP 0 rfl rfl 2 (by decide) (hts (.fieldLink RX11 28 "TypingPool" "floor" "LTypingPool$Floor;") (List.mem_cons_of_mem _ (List.mem_append_left _ (List.mem_of_getElem? (i := 3) rfl)))) (fun _ h9 => h9) rfl dX11_piece_235 ?_
                    refine lv_iload hx hb dX11_piece_238 (lv_at hl 0 rfl) ?_
                    refine lv_aload hx hb dX11_piece_240 (lv_at hl 1 rfl) ?_
                    have hPc := hP.sub (ws' := [(q_208, .inr (6, [.int p0, .int p1, .int p2, .int p3, .int p4, .int p5, .int p6, .int p7, .int p8, .int 0, .int 0]))]) [9] rfl
                    have hDc := hD.sub (ws' := [(q_208, .inr (6, [.int p0, .int p1, .int p2, .int p3, .int p4, .int p5, .int p6, .int p7, .int p8, .int 0, .int 0]))]) [9] (by decide) rfl
                    have hKc := hK.sub (tys' := []) [] rfl
                    have hFc := va_free (wc := [(q_208, .inr (6, [.int p0, .int p1, .int p2, .int p3, .int p4, .int p5, .int p6, .int p7, .int p8, .int 0, .int 0]))]) hD hS hA [9] rfl
                    refine va_calli (va_runV (As := []) (rest := [.int 0, .ref (a 3)]) ⟨hx, hb, hml, hown, hts⟩ (c_allWork l dC dI ad av H.size q_208 p0 p1 p2 p3 p4 p5 p6 p7 p8 0 0 ) (cwV 0 hts (gi_4 (List.mem_cons_of_mem _ (List.mem_append_left _ (List.mem_of_getElem? (i := 22) rfl))) (List.mem_cons_of_mem _ (List.mem_append_left _ (List.mem_of_getElem? (i := 23) rfl))) (List.mem_cons_of_mem _ (List.mem_append_left _ (List.mem_of_getElem? (i := 24) rfl))) (List.mem_cons_of_mem _ (List.mem_append_left _ (List.mem_of_getElem? (i := 10) rfl))) (fun _ hh => (List.mem_cons_of_mem _ (List.mem_append_right _ (List.mem_append_right _ (List.mem_append_right _ (List.mem_append_right _ (List.mem_append_right _ (List.mem_append_right _ (List.mem_append_right _ (List.mem_append_left _ hh)))))))))) gd_c_allWork) rfl rfl rfl (by decide +kernel) ⟨Nat.le_of_ble_eq_true rfl, Nat.le_of_ble_eq_true rfl⟩) ⟨pr_blind, va_recv hKc hPc (ci := 6) (q0 := 0) rfl rfl, pr_use hPc hKc hDc hFc hS hM⟩ rfl rfl hl.1 rfl (lv_room (Nat.le_of_ble_eq_true rfl)) dX11_piece_242 ⟨Nat.le_of_ble_eq_true rfl, Nat.le_of_ble_eq_true rfl⟩) hS (fun q _ h => hFc q h) hFc (fun r_212 u t H locs ht hvm hw hB hz1 hk1 hS => ?_)
                    refine W.widen (k := 1) (n := 11) (Nat.le_of_ble_eq_true rfl) (Nat.le_of_ble_eq_true rfl) ?_
                    subst hw
                    obtain ⟨w_213, hre_214, hP1, hK1, hD1⟩ := hB
                    refine lq_top (v := w_213) hre_214 ?_
                    rw [ht] at hP1
                    have hK1 := va_K.moved hvm.symm hK1
                    obtain ⟨hP, hD⟩ := va_join (wr := [(h0, .inr (11, [.ref (a 1), .ref (a 2), .ref (a 3), .ref (a 4), .ref (a 5), .ref (a 6), .ref (a 7), .int 0, .ref (a 8), .int 0])), ((a 1), .inr (1, [.ref (a 9), .int 0, .ref (a 10), .int 0, .ref (a 11), .int 1, .ref (a 12), .int 0])), ((a 11), .inl ((k 11), 30, .inr (.inr (.inr (.inr g_211))))), ((a 3), .inr (3, [.ref (a 1), .ref (a 2), .int 0, .ref (a 20), .ref (a 21), .ref (a 22), .ref (a 23), .ref (a 24), .ref (a 25), .ref (a 26), .ref (a 27), .ref (a 28)])), ((a 24), .inl ((k 24), 30, .inl f24)), ((a 25), .inl ((k 25), 30, .inl f25)), ((a 26), .inl ((k 26), 30, .inl f26)), ((a 27), .inl ((k 27), 30, .inl f27)), ((a 28), .inl ((k 28), 30, .inl f28))]) (w1 := [(q_208, .inr (6, [.int p0, .int p1, .int p2, .int p3, .int p4, .int p5, .int p6, .int p7, .int p8, .int 0, .int 0]))]) hP hD [9] [0, 1, 2, 3, 4, 5, 6, 7, 8] rfl rfl (by decide) (by decide) hk1 hFc hP1 hD1
                    have hK := (hK.sub (tys' := [((k 11), .object RX6), ((k 24), .int), ((k 25), .int), ((k 26), .int), ((k 27), .int), ((k 28), .int)]) [0, 1, 2, 3, 4, 5] rfl).app hK1
                    have hP : va_P (dC, dI) vwCl [(h0, .inr (11, [.ref (a 1), .ref (a 2), .ref (a 3), .ref (a 4), .ref (a 5), .ref (a 6), .ref (a 7), .int 0, .ref (a 8), .int 0])), ((a 1), .inr (1, [.ref (a 9), .int 0, .ref (a 10), .int 0, .ref (a 11), .int 1, .ref (a 12), .int 0])), ((a 11), .inl ((k 11), 30, .inr (.inr (.inr (.inr g_211))))), ((a 3), .inr (3, [.ref (a 1), .ref (a 2), .int 0, .ref (a 20), .ref (a 21), .ref (a 22), .ref (a 23), .ref (a 24), .ref (a 25), .ref (a 26), .ref (a 27), .ref (a 28)])), ((a 24), .inl ((k 24), 30, .inl f24)), ((a 25), .inl ((k 25), 30, .inl f25)), ((a 26), .inl ((k 26), 30, .inl f26)), ((a 27), .inl ((k 27), 30, .inl f27)), ((a 28), .inl ((k 28), 30, .inl f28)), (q_208, .inr (6, [.int p0, .int p1, .int p2, .int p3, .int p4, .int p5, .int p6, .int p7, .int p8, .int 0, .int 0]))] H := hP
                    have hD : va_D A [(h0, .inr (11, [.ref (a 1), .ref (a 2), .ref (a 3), .ref (a 4), .ref (a 5), .ref (a 6), .ref (a 7), .int 0, .ref (a 8), .int 0])), ((a 1), .inr (1, [.ref (a 9), .int 0, .ref (a 10), .int 0, .ref (a 11), .int 1, .ref (a 12), .int 0])), ((a 11), .inl ((k 11), 30, .inr (.inr (.inr (.inr g_211))))), ((a 3), .inr (3, [.ref (a 1), .ref (a 2), .int 0, .ref (a 20), .ref (a 21), .ref (a 22), .ref (a 23), .ref (a 24), .ref (a 25), .ref (a 26), .ref (a 27), .ref (a 28)])), ((a 24), .inl ((k 24), 30, .inl f24)), ((a 25), .inl ((k 25), 30, .inl f25)), ((a 26), .inl ((k 26), 30, .inl f26)), ((a 27), .inl ((k 27), 30, .inl f27)), ((a 28), .inl ((k 28), 30, .inl f28)), (q_208, .inr (6, [.int p0, .int p1, .int p2, .int p3, .int p4, .int p5, .int p6, .int p7, .int p8, .int 0, .int 0]))] := hD
                    have hK : va_K (dC, dI) vwCl [((k 11), .object RX6), ((k 24), .int), ((k 25), .int), ((k 26), .int), ((k 27), .int), ((k 28), .int)] s := hK
                    have hPc := hP.sub (ws' := [((a 3), .inr (3, [.ref (a 1), .ref (a 2), .int 0, .ref (a 20), .ref (a 21), .ref (a 22), .ref (a 23), .ref (a 24), .ref (a 25), .ref (a 26), .ref (a 27), .ref (a 28)])), ((a 24), .inl ((k 24), 30, .inl f24)), ((a 25), .inl ((k 25), 30, .inl f25)), ((a 26), .inl ((k 26), 30, .inl f26)), ((a 27), .inl ((k 27), 30, .inl f27)), ((a 28), .inl ((k 28), 30, .inl f28))]) [3, 4, 5, 6, 7, 8] rfl
                    have hDc := hD.sub (ws' := [((a 3), .inr (3, [.ref (a 1), .ref (a 2), .int 0, .ref (a 20), .ref (a 21), .ref (a 22), .ref (a 23), .ref (a 24), .ref (a 25), .ref (a 26), .ref (a 27), .ref (a 28)])), ((a 24), .inl ((k 24), 30, .inl f24)), ((a 25), .inl ((k 25), 30, .inl f25)), ((a 26), .inl ((k 26), 30, .inl f26)), ((a 27), .inl ((k 27), 30, .inl f27)), ((a 28), .inl ((k 28), 30, .inl f28))]) [3, 4, 5, 6, 7, 8] (by decide) rfl
                    have hKc := hK.sub (tys' := [((k 24), .int), ((k 25), .int), ((k 26), .int), ((k 27), .int), ((k 28), .int)]) [1, 2, 3, 4, 5] rfl
                    have hFc := va_free (wc := [((a 3), .inr (3, [.ref (a 1), .ref (a 2), .int 0, .ref (a 20), .ref (a 21), .ref (a 22), .ref (a 23), .ref (a 24), .ref (a 25), .ref (a 26), .ref (a 27), .ref (a 28)])), ((a 24), .inl ((k 24), 30, .inl f24)), ((a 25), .inl ((k 25), 30, .inl f25)), ((a 26), .inl ((k 26), 30, .inl f26)), ((a 27), .inl ((k 27), 30, .inl f27)), ((a 28), .inl ((k 28), 30, .inl f28))]) hD hS hA [3, 4, 5, 6, 7, 8] rfl
                    refine va_callv (va_runV (As := [.int 0, .int w_213]) (rest := []) ⟨hx, hb, hml, hown, hts⟩ (c_openPiece0 l dC dI ad av H.size (a 3) (a 1) (a 2) (a 20) (a 21) (a 22) (a 23) (a 24) (a 25) (a 26) (a 27) (a 28) (k 24) (k 25) (k 26) (k 27) (k 28) f24 f25 f26 f27 f28 w_213 ) (cwV 2 hts (gi_4 (List.mem_cons_of_mem _ (List.mem_append_left _ (List.mem_of_getElem? (i := 25) rfl))) (List.mem_cons_of_mem _ (List.mem_append_left _ (List.mem_of_getElem? (i := 26) rfl))) (List.mem_cons_of_mem _ (List.mem_append_left _ (List.mem_of_getElem? (i := 27) rfl))) (List.mem_cons_of_mem _ (List.mem_append_left _ (List.mem_of_getElem? (i := 28) rfl))) (fun _ hh => (List.mem_cons_of_mem _ (List.mem_append_right _ (List.mem_append_right _ (List.mem_append_right _ (List.mem_append_right _ (List.mem_append_right _ (List.mem_append_right _ (List.mem_append_right _ (List.mem_append_right _ (List.mem_append_left _ hh))))))))))) gd_c_openPiece0) rfl rfl rfl (by decide +kernel) ⟨Nat.le_of_ble_eq_true rfl, Nat.le_of_ble_eq_true rfl⟩) ⟨pr_blind, va_recv hKc hPc (ci := 3) (q0 := 0) rfl rfl, pr_use hPc hKc hDc hFc hS hM⟩ rfl rfl hl.1 rfl (lv_room (Nat.le_of_ble_eq_true rfl)) dX11_piece_245 ⟨Nat.le_of_ble_eq_true rfl, Nat.le_of_ble_eq_true rfl⟩) hS (fun q _ h => hFc q h) hFc (fun u t H locs ht hvm hw hB hz1 hk1 hS => ?_)
                    refine W.widen (k := 1) (n := 11) (Nat.le_of_ble_eq_true rfl) (Nat.le_of_ble_eq_true rfl) ?_
                    clear hB
                    obtain ⟨hP, hD⟩ := va_join (wr := [(h0, .inr (11, [.ref (a 1), .ref (a 2), .ref (a 3), .ref (a 4), .ref (a 5), .ref (a 6), .ref (a 7), .int 0, .ref (a 8), .int 0])), ((a 1), .inr (1, [.ref (a 9), .int 0, .ref (a 10), .int 0, .ref (a 11), .int 1, .ref (a 12), .int 0])), ((a 11), .inl ((k 11), 30, .inr (.inr (.inr (.inr g_211))))), (q_208, .inr (6, [.int p0, .int p1, .int p2, .int p3, .int p4, .int p5, .int p6, .int p7, .int p8, .int 0, .int 0]))]) (w1 := []) hP hD [3, 4, 5, 6, 7, 8] [0, 1, 2, 9] rfl rfl (by decide) (by decide) hk1 hFc (fun k q h => by simp at h) ⟨fun i j p q h => by simp at h, fun k q h => by simp at h⟩
                    have hK := (hK.sub (tys' := [((k 11), .object RX6)]) [0] rfl)
                    have hP : va_P (dC, dI) vwCl [(h0, .inr (11, [.ref (a 1), .ref (a 2), .ref (a 3), .ref (a 4), .ref (a 5), .ref (a 6), .ref (a 7), .int 0, .ref (a 8), .int 0])), ((a 1), .inr (1, [.ref (a 9), .int 0, .ref (a 10), .int 0, .ref (a 11), .int 1, .ref (a 12), .int 0])), ((a 11), .inl ((k 11), 30, .inr (.inr (.inr (.inr g_211))))), (q_208, .inr (6, [.int p0, .int p1, .int p2, .int p3, .int p4, .int p5, .int p6, .int p7, .int p8, .int 0, .int 0]))] H := hP
                    have hD : va_D A [(h0, .inr (11, [.ref (a 1), .ref (a 2), .ref (a 3), .ref (a 4), .ref (a 5), .ref (a 6), .ref (a 7), .int 0, .ref (a 8), .int 0])), ((a 1), .inr (1, [.ref (a 9), .int 0, .ref (a 10), .int 0, .ref (a 11), .int 1, .ref (a 12), .int 0])), ((a 11), .inl ((k 11), 30, .inr (.inr (.inr (.inr g_211))))), (q_208, .inr (6, [.int p0, .int p1, .int p2, .int p3, .int p4, .int p5, .int p6, .int p7, .int p8, .int 0, .int 0]))] := hD
                    have hK : va_K (dC, dI) vwCl [((k 11), .object RX6)] s := hK
                    refine lv_iload hx hb dX11_piece_248 (lv_at hl 0 rfl) ?_
                    exact W.iret (v := 0) hx hb hr (fun t ht hW => ⟨⟨0, 0, rfl, rfl, (if_pos ⟨⟨hf_145, hf_146⟩, ⟨⟨hf_152, hf_153⟩, ⟨⟨hf_159, hf_160⟩, ⟨⟨hf_166, hf_167⟩, ⟨⟨hf_173, hf_174⟩, ⟨⟨hf_180, hf_181⟩, ⟨⟨hf_187, hf_188⟩, ⟨⟨hf_194, hf_195⟩, ⟨hf_201, hf_202⟩⟩⟩⟩⟩⟩⟩⟩⟩).symm⟩, hS.F ht⟩) hS.2.2 dX11_piece_250
                  · refine lq_top (v := 0) hre_203 ?_
                    rw [ht] at hP1
                    have hK1 := va_K.moved hvm.symm hK1
                    obtain ⟨hP, hD⟩ := va_join (wr := [(h0, .inr (11, [.ref (a 1), .ref (a 2), .ref (a 3), .ref (a 4), .ref (a 5), .ref (a 6), .ref (a 7), .int 0, .ref (a 8), .int 0])), ((a 1), .inr (1, [.ref (a 9), .int 0, .ref (a 10), .int 0, .ref (a 11), .int 0, .ref (a 12), .int 0])), ((a 11), .inl ((k 11), 30, .inr (.inr (.inr (.inr g11))))), ((a 3), .inr (3, [.ref (a 1), .ref (a 2), .int 0, .ref (a 20), .ref (a 21), .ref (a 22), .ref (a 23), .ref (a 24), .ref (a 25), .ref (a 26), .ref (a 27), .ref (a 28)])), ((a 24), .inl ((k 24), 30, .inl f24)), ((a 25), .inl ((k 25), 30, .inl f25)), ((a 26), .inl ((k 26), 30, .inl f26)), ((a 27), .inl ((k 27), 30, .inl f27)), ((a 28), .inl ((k 28), 30, .inl f28))]) (w1 := []) hP hD [] [0, 1, 2, 3, 4, 5, 6, 7, 8] rfl rfl (by decide) (by decide) hk1 hFc hP1 hD1
                    have hK := (hK.sub (tys' := [((k 11), .object RX6), ((k 24), .int), ((k 25), .int), ((k 26), .int), ((k 27), .int), ((k 28), .int)]) [0, 1, 2, 3, 4, 5] rfl).app hK1
                    have hP : va_P (dC, dI) vwCl [(h0, .inr (11, [.ref (a 1), .ref (a 2), .ref (a 3), .ref (a 4), .ref (a 5), .ref (a 6), .ref (a 7), .int 0, .ref (a 8), .int 0])), ((a 1), .inr (1, [.ref (a 9), .int 0, .ref (a 10), .int 0, .ref (a 11), .int 0, .ref (a 12), .int 0])), ((a 11), .inl ((k 11), 30, .inr (.inr (.inr (.inr g11))))), ((a 3), .inr (3, [.ref (a 1), .ref (a 2), .int 0, .ref (a 20), .ref (a 21), .ref (a 22), .ref (a 23), .ref (a 24), .ref (a 25), .ref (a 26), .ref (a 27), .ref (a 28)])), ((a 24), .inl ((k 24), 30, .inl f24)), ((a 25), .inl ((k 25), 30, .inl f25)), ((a 26), .inl ((k 26), 30, .inl f26)), ((a 27), .inl ((k 27), 30, .inl f27)), ((a 28), .inl ((k 28), 30, .inl f28))] H := hP
                    have hD : va_D A [(h0, .inr (11, [.ref (a 1), .ref (a 2), .ref (a 3), .ref (a 4), .ref (a 5), .ref (a 6), .ref (a 7), .int 0, .ref (a 8), .int 0])), ((a 1), .inr (1, [.ref (a 9), .int 0, .ref (a 10), .int 0, .ref (a 11), .int 0, .ref (a 12), .int 0])), ((a 11), .inl ((k 11), 30, .inr (.inr (.inr (.inr g11))))), ((a 3), .inr (3, [.ref (a 1), .ref (a 2), .int 0, .ref (a 20), .ref (a 21), .ref (a 22), .ref (a 23), .ref (a 24), .ref (a 25), .ref (a 26), .ref (a 27), .ref (a 28)])), ((a 24), .inl ((k 24), 30, .inl f24)), ((a 25), .inl ((k 25), 30, .inl f25)), ((a 26), .inl ((k 26), 30, .inl f26)), ((a 27), .inl ((k 27), 30, .inl f27)), ((a 28), .inl ((k 28), 30, .inl f28))] := hD
                    have hK : va_K (dC, dI) vwCl [((k 11), .object RX6), ((k 24), .int), ((k 25), .int), ((k 26), .int), ((k 27), .int), ((k 28), .int)] s := hK
                    refine lv_if_eq (tgt := 109) hx hb dX11_piece_102 (by decide) (fun c_217 => ?_) (fun c_217 => absurd c_217 (fun z => z (by decide)))
                    refine lv_iconst (v := 0) hx hb dX11_piece_109 (by decide) ?_
                    refine lv_istore (lv' := [(10, .int 0), (0, .ref h0), (1, .int p0), (2, .int p1), (3, .int p2), (4, .int p3), (5, .int p4), (6, .int p5), (7, .int p6), (8, .int p7), (9, .int p8)]) hx hb dX11_piece_110 hl (by decide) rfl (fun ls hl => ?_)
                    refine lv_iload hx hb dX11_piece_112 (lv_at hl 0 rfl) ?_
                    refine lv_if_eq (tgt := 129) hx hb dX11_piece_114 (by decide) (fun c_218 => ?_) (fun c_218 => absurd c_218 (fun z => z (by decide)))
                    refine lv_iconst (v := (-1)) hx hb dX11_piece_129 (by decide) ?_
                    refine W.widen (k := 1) (n := 11) (Nat.le_of_ble_eq_true rfl) (Nat.le_of_ble_eq_true rfl) ?_
                    exact W.iret (v := (-1)) hx hb hr (fun t ht hW => ⟨⟨(-1), (-1), rfl, rfl, (if_neg (fun z => hf_204 z.2.2.2.2.2.2.2.2)).symm⟩, hS.F ht⟩) hS.2.2 dX11_piece_130
                · refine lq_top (v := 0) hre_196 ?_
                  rw [ht] at hP1
                  have hK1 := va_K.moved hvm.symm hK1
                  obtain ⟨hP, hD⟩ := va_join (wr := [(h0, .inr (11, [.ref (a 1), .ref (a 2), .ref (a 3), .ref (a 4), .ref (a 5), .ref (a 6), .ref (a 7), .int 0, .ref (a 8), .int 0])), ((a 1), .inr (1, [.ref (a 9), .int 0, .ref (a 10), .int 0, .ref (a 11), .int 0, .ref (a 12), .int 0])), ((a 11), .inl ((k 11), 30, .inr (.inr (.inr (.inr g11))))), ((a 3), .inr (3, [.ref (a 1), .ref (a 2), .int 0, .ref (a 20), .ref (a 21), .ref (a 22), .ref (a 23), .ref (a 24), .ref (a 25), .ref (a 26), .ref (a 27), .ref (a 28)])), ((a 24), .inl ((k 24), 30, .inl f24)), ((a 25), .inl ((k 25), 30, .inl f25)), ((a 26), .inl ((k 26), 30, .inl f26)), ((a 27), .inl ((k 27), 30, .inl f27)), ((a 28), .inl ((k 28), 30, .inl f28))]) (w1 := []) hP hD [] [0, 1, 2, 3, 4, 5, 6, 7, 8] rfl rfl (by decide) (by decide) hk1 hFc hP1 hD1
                  have hK := (hK.sub (tys' := [((k 11), .object RX6), ((k 24), .int), ((k 25), .int), ((k 26), .int), ((k 27), .int), ((k 28), .int)]) [0, 1, 2, 3, 4, 5] rfl).app hK1
                  have hP : va_P (dC, dI) vwCl [(h0, .inr (11, [.ref (a 1), .ref (a 2), .ref (a 3), .ref (a 4), .ref (a 5), .ref (a 6), .ref (a 7), .int 0, .ref (a 8), .int 0])), ((a 1), .inr (1, [.ref (a 9), .int 0, .ref (a 10), .int 0, .ref (a 11), .int 0, .ref (a 12), .int 0])), ((a 11), .inl ((k 11), 30, .inr (.inr (.inr (.inr g11))))), ((a 3), .inr (3, [.ref (a 1), .ref (a 2), .int 0, .ref (a 20), .ref (a 21), .ref (a 22), .ref (a 23), .ref (a 24), .ref (a 25), .ref (a 26), .ref (a 27), .ref (a 28)])), ((a 24), .inl ((k 24), 30, .inl f24)), ((a 25), .inl ((k 25), 30, .inl f25)), ((a 26), .inl ((k 26), 30, .inl f26)), ((a 27), .inl ((k 27), 30, .inl f27)), ((a 28), .inl ((k 28), 30, .inl f28))] H := hP
                  have hD : va_D A [(h0, .inr (11, [.ref (a 1), .ref (a 2), .ref (a 3), .ref (a 4), .ref (a 5), .ref (a 6), .ref (a 7), .int 0, .ref (a 8), .int 0])), ((a 1), .inr (1, [.ref (a 9), .int 0, .ref (a 10), .int 0, .ref (a 11), .int 0, .ref (a 12), .int 0])), ((a 11), .inl ((k 11), 30, .inr (.inr (.inr (.inr g11))))), ((a 3), .inr (3, [.ref (a 1), .ref (a 2), .int 0, .ref (a 20), .ref (a 21), .ref (a 22), .ref (a 23), .ref (a 24), .ref (a 25), .ref (a 26), .ref (a 27), .ref (a 28)])), ((a 24), .inl ((k 24), 30, .inl f24)), ((a 25), .inl ((k 25), 30, .inl f25)), ((a 26), .inl ((k 26), 30, .inl f26)), ((a 27), .inl ((k 27), 30, .inl f27)), ((a 28), .inl ((k 28), 30, .inl f28))] := hD
                  have hK : va_K (dC, dI) vwCl [((k 11), .object RX6), ((k 24), .int), ((k 25), .int), ((k 26), .int), ((k 27), .int), ((k 28), .int)] s := hK
                  refine lv_if_eq (tgt := 109) hx hb dX11_piece_91 (by decide) (fun c_219 => ?_) (fun c_219 => absurd c_219 (fun z => z (by decide)))
                  refine lv_iconst (v := 0) hx hb dX11_piece_109 (by decide) ?_
                  refine lv_istore (lv' := [(10, .int 0), (0, .ref h0), (1, .int p0), (2, .int p1), (3, .int p2), (4, .int p3), (5, .int p4), (6, .int p5), (7, .int p6), (8, .int p7), (9, .int p8)]) hx hb dX11_piece_110 hl (by decide) rfl (fun ls hl => ?_)
                  refine lv_iload hx hb dX11_piece_112 (lv_at hl 0 rfl) ?_
                  refine lv_if_eq (tgt := 129) hx hb dX11_piece_114 (by decide) (fun c_220 => ?_) (fun c_220 => absurd c_220 (fun z => z (by decide)))
                  refine lv_iconst (v := (-1)) hx hb dX11_piece_129 (by decide) ?_
                  refine W.widen (k := 1) (n := 11) (Nat.le_of_ble_eq_true rfl) (Nat.le_of_ble_eq_true rfl) ?_
                  exact W.iret (v := (-1)) hx hb hr (fun t ht hW => ⟨⟨(-1), (-1), rfl, rfl, (if_neg (fun z => hf_197 z.2.2.2.2.2.2.2.1)).symm⟩, hS.F ht⟩) hS.2.2 dX11_piece_130
              · refine lq_top (v := 0) hre_189 ?_
                rw [ht] at hP1
                have hK1 := va_K.moved hvm.symm hK1
                obtain ⟨hP, hD⟩ := va_join (wr := [(h0, .inr (11, [.ref (a 1), .ref (a 2), .ref (a 3), .ref (a 4), .ref (a 5), .ref (a 6), .ref (a 7), .int 0, .ref (a 8), .int 0])), ((a 1), .inr (1, [.ref (a 9), .int 0, .ref (a 10), .int 0, .ref (a 11), .int 0, .ref (a 12), .int 0])), ((a 11), .inl ((k 11), 30, .inr (.inr (.inr (.inr g11))))), ((a 3), .inr (3, [.ref (a 1), .ref (a 2), .int 0, .ref (a 20), .ref (a 21), .ref (a 22), .ref (a 23), .ref (a 24), .ref (a 25), .ref (a 26), .ref (a 27), .ref (a 28)])), ((a 24), .inl ((k 24), 30, .inl f24)), ((a 25), .inl ((k 25), 30, .inl f25)), ((a 26), .inl ((k 26), 30, .inl f26)), ((a 27), .inl ((k 27), 30, .inl f27)), ((a 28), .inl ((k 28), 30, .inl f28))]) (w1 := []) hP hD [] [0, 1, 2, 3, 4, 5, 6, 7, 8] rfl rfl (by decide) (by decide) hk1 hFc hP1 hD1
                have hK := (hK.sub (tys' := [((k 11), .object RX6), ((k 24), .int), ((k 25), .int), ((k 26), .int), ((k 27), .int), ((k 28), .int)]) [0, 1, 2, 3, 4, 5] rfl).app hK1
                have hP : va_P (dC, dI) vwCl [(h0, .inr (11, [.ref (a 1), .ref (a 2), .ref (a 3), .ref (a 4), .ref (a 5), .ref (a 6), .ref (a 7), .int 0, .ref (a 8), .int 0])), ((a 1), .inr (1, [.ref (a 9), .int 0, .ref (a 10), .int 0, .ref (a 11), .int 0, .ref (a 12), .int 0])), ((a 11), .inl ((k 11), 30, .inr (.inr (.inr (.inr g11))))), ((a 3), .inr (3, [.ref (a 1), .ref (a 2), .int 0, .ref (a 20), .ref (a 21), .ref (a 22), .ref (a 23), .ref (a 24), .ref (a 25), .ref (a 26), .ref (a 27), .ref (a 28)])), ((a 24), .inl ((k 24), 30, .inl f24)), ((a 25), .inl ((k 25), 30, .inl f25)), ((a 26), .inl ((k 26), 30, .inl f26)), ((a 27), .inl ((k 27), 30, .inl f27)), ((a 28), .inl ((k 28), 30, .inl f28))] H := hP
                have hD : va_D A [(h0, .inr (11, [.ref (a 1), .ref (a 2), .ref (a 3), .ref (a 4), .ref (a 5), .ref (a 6), .ref (a 7), .int 0, .ref (a 8), .int 0])), ((a 1), .inr (1, [.ref (a 9), .int 0, .ref (a 10), .int 0, .ref (a 11), .int 0, .ref (a 12), .int 0])), ((a 11), .inl ((k 11), 30, .inr (.inr (.inr (.inr g11))))), ((a 3), .inr (3, [.ref (a 1), .ref (a 2), .int 0, .ref (a 20), .ref (a 21), .ref (a 22), .ref (a 23), .ref (a 24), .ref (a 25), .ref (a 26), .ref (a 27), .ref (a 28)])), ((a 24), .inl ((k 24), 30, .inl f24)), ((a 25), .inl ((k 25), 30, .inl f25)), ((a 26), .inl ((k 26), 30, .inl f26)), ((a 27), .inl ((k 27), 30, .inl f27)), ((a 28), .inl ((k 28), 30, .inl f28))] := hD
                have hK : va_K (dC, dI) vwCl [((k 11), .object RX6), ((k 24), .int), ((k 25), .int), ((k 26), .int), ((k 27), .int), ((k 28), .int)] s := hK
                refine lv_if_eq (tgt := 109) hx hb dX11_piece_80 (by decide) (fun c_221 => ?_) (fun c_221 => absurd c_221 (fun z => z (by decide)))
                refine lv_iconst (v := 0) hx hb dX11_piece_109 (by decide) ?_
                refine lv_istore (lv' := [(10, .int 0), (0, .ref h0), (1, .int p0), (2, .int p1), (3, .int p2), (4, .int p3), (5, .int p4), (6, .int p5), (7, .int p6), (8, .int p7), (9, .int p8)]) hx hb dX11_piece_110 hl (by decide) rfl (fun ls hl => ?_)
                refine lv_iload hx hb dX11_piece_112 (lv_at hl 0 rfl) ?_
                refine lv_if_eq (tgt := 129) hx hb dX11_piece_114 (by decide) (fun c_222 => ?_) (fun c_222 => absurd c_222 (fun z => z (by decide)))
                refine lv_iconst (v := (-1)) hx hb dX11_piece_129 (by decide) ?_
                refine W.widen (k := 1) (n := 11) (Nat.le_of_ble_eq_true rfl) (Nat.le_of_ble_eq_true rfl) ?_
                exact W.iret (v := (-1)) hx hb hr (fun t ht hW => ⟨⟨(-1), (-1), rfl, rfl, (if_neg (fun z => hf_190 z.2.2.2.2.2.2.1)).symm⟩, hS.F ht⟩) hS.2.2 dX11_piece_130
            · refine lq_top (v := 0) hre_182 ?_
              rw [ht] at hP1
              have hK1 := va_K.moved hvm.symm hK1
              obtain ⟨hP, hD⟩ := va_join (wr := [(h0, .inr (11, [.ref (a 1), .ref (a 2), .ref (a 3), .ref (a 4), .ref (a 5), .ref (a 6), .ref (a 7), .int 0, .ref (a 8), .int 0])), ((a 1), .inr (1, [.ref (a 9), .int 0, .ref (a 10), .int 0, .ref (a 11), .int 0, .ref (a 12), .int 0])), ((a 11), .inl ((k 11), 30, .inr (.inr (.inr (.inr g11))))), ((a 3), .inr (3, [.ref (a 1), .ref (a 2), .int 0, .ref (a 20), .ref (a 21), .ref (a 22), .ref (a 23), .ref (a 24), .ref (a 25), .ref (a 26), .ref (a 27), .ref (a 28)])), ((a 24), .inl ((k 24), 30, .inl f24)), ((a 25), .inl ((k 25), 30, .inl f25)), ((a 26), .inl ((k 26), 30, .inl f26)), ((a 27), .inl ((k 27), 30, .inl f27)), ((a 28), .inl ((k 28), 30, .inl f28))]) (w1 := []) hP hD [] [0, 1, 2, 3, 4, 5, 6, 7, 8] rfl rfl (by decide) (by decide) hk1 hFc hP1 hD1
              have hK := (hK.sub (tys' := [((k 11), .object RX6), ((k 24), .int), ((k 25), .int), ((k 26), .int), ((k 27), .int), ((k 28), .int)]) [0, 1, 2, 3, 4, 5] rfl).app hK1
              have hP : va_P (dC, dI) vwCl [(h0, .inr (11, [.ref (a 1), .ref (a 2), .ref (a 3), .ref (a 4), .ref (a 5), .ref (a 6), .ref (a 7), .int 0, .ref (a 8), .int 0])), ((a 1), .inr (1, [.ref (a 9), .int 0, .ref (a 10), .int 0, .ref (a 11), .int 0, .ref (a 12), .int 0])), ((a 11), .inl ((k 11), 30, .inr (.inr (.inr (.inr g11))))), ((a 3), .inr (3, [.ref (a 1), .ref (a 2), .int 0, .ref (a 20), .ref (a 21), .ref (a 22), .ref (a 23), .ref (a 24), .ref (a 25), .ref (a 26), .ref (a 27), .ref (a 28)])), ((a 24), .inl ((k 24), 30, .inl f24)), ((a 25), .inl ((k 25), 30, .inl f25)), ((a 26), .inl ((k 26), 30, .inl f26)), ((a 27), .inl ((k 27), 30, .inl f27)), ((a 28), .inl ((k 28), 30, .inl f28))] H := hP
              have hD : va_D A [(h0, .inr (11, [.ref (a 1), .ref (a 2), .ref (a 3), .ref (a 4), .ref (a 5), .ref (a 6), .ref (a 7), .int 0, .ref (a 8), .int 0])), ((a 1), .inr (1, [.ref (a 9), .int 0, .ref (a 10), .int 0, .ref (a 11), .int 0, .ref (a 12), .int 0])), ((a 11), .inl ((k 11), 30, .inr (.inr (.inr (.inr g11))))), ((a 3), .inr (3, [.ref (a 1), .ref (a 2), .int 0, .ref (a 20), .ref (a 21), .ref (a 22), .ref (a 23), .ref (a 24), .ref (a 25), .ref (a 26), .ref (a 27), .ref (a 28)])), ((a 24), .inl ((k 24), 30, .inl f24)), ((a 25), .inl ((k 25), 30, .inl f25)), ((a 26), .inl ((k 26), 30, .inl f26)), ((a 27), .inl ((k 27), 30, .inl f27)), ((a 28), .inl ((k 28), 30, .inl f28))] := hD
              have hK : va_K (dC, dI) vwCl [((k 11), .object RX6), ((k 24), .int), ((k 25), .int), ((k 26), .int), ((k 27), .int), ((k 28), .int)] s := hK
              refine lv_if_eq (tgt := 109) hx hb dX11_piece_67 (by decide) (fun c_223 => ?_) (fun c_223 => absurd c_223 (fun z => z (by decide)))
              refine lv_iconst (v := 0) hx hb dX11_piece_109 (by decide) ?_
              refine lv_istore (lv' := [(10, .int 0), (0, .ref h0), (1, .int p0), (2, .int p1), (3, .int p2), (4, .int p3), (5, .int p4), (6, .int p5), (7, .int p6), (8, .int p7), (9, .int p8)]) hx hb dX11_piece_110 hl (by decide) rfl (fun ls hl => ?_)
              refine lv_iload hx hb dX11_piece_112 (lv_at hl 0 rfl) ?_
              refine lv_if_eq (tgt := 129) hx hb dX11_piece_114 (by decide) (fun c_224 => ?_) (fun c_224 => absurd c_224 (fun z => z (by decide)))
              refine lv_iconst (v := (-1)) hx hb dX11_piece_129 (by decide) ?_
              refine W.widen (k := 1) (n := 11) (Nat.le_of_ble_eq_true rfl) (Nat.le_of_ble_eq_true rfl) ?_
              exact W.iret (v := (-1)) hx hb hr (fun t ht hW => ⟨⟨(-1), (-1), rfl, rfl, (if_neg (fun z => hf_183 z.2.2.2.2.2.1)).symm⟩, hS.F ht⟩) hS.2.2 dX11_piece_130
          · refine lq_top (v := 0) hre_175 ?_
            rw [ht] at hP1
            have hK1 := va_K.moved hvm.symm hK1
            obtain ⟨hP, hD⟩ := va_join (wr := [(h0, .inr (11, [.ref (a 1), .ref (a 2), .ref (a 3), .ref (a 4), .ref (a 5), .ref (a 6), .ref (a 7), .int 0, .ref (a 8), .int 0])), ((a 1), .inr (1, [.ref (a 9), .int 0, .ref (a 10), .int 0, .ref (a 11), .int 0, .ref (a 12), .int 0])), ((a 11), .inl ((k 11), 30, .inr (.inr (.inr (.inr g11))))), ((a 3), .inr (3, [.ref (a 1), .ref (a 2), .int 0, .ref (a 20), .ref (a 21), .ref (a 22), .ref (a 23), .ref (a 24), .ref (a 25), .ref (a 26), .ref (a 27), .ref (a 28)])), ((a 24), .inl ((k 24), 30, .inl f24)), ((a 25), .inl ((k 25), 30, .inl f25)), ((a 26), .inl ((k 26), 30, .inl f26)), ((a 27), .inl ((k 27), 30, .inl f27)), ((a 28), .inl ((k 28), 30, .inl f28))]) (w1 := []) hP hD [] [0, 1, 2, 3, 4, 5, 6, 7, 8] rfl rfl (by decide) (by decide) hk1 hFc hP1 hD1
            have hK := (hK.sub (tys' := [((k 11), .object RX6), ((k 24), .int), ((k 25), .int), ((k 26), .int), ((k 27), .int), ((k 28), .int)]) [0, 1, 2, 3, 4, 5] rfl).app hK1
            have hP : va_P (dC, dI) vwCl [(h0, .inr (11, [.ref (a 1), .ref (a 2), .ref (a 3), .ref (a 4), .ref (a 5), .ref (a 6), .ref (a 7), .int 0, .ref (a 8), .int 0])), ((a 1), .inr (1, [.ref (a 9), .int 0, .ref (a 10), .int 0, .ref (a 11), .int 0, .ref (a 12), .int 0])), ((a 11), .inl ((k 11), 30, .inr (.inr (.inr (.inr g11))))), ((a 3), .inr (3, [.ref (a 1), .ref (a 2), .int 0, .ref (a 20), .ref (a 21), .ref (a 22), .ref (a 23), .ref (a 24), .ref (a 25), .ref (a 26), .ref (a 27), .ref (a 28)])), ((a 24), .inl ((k 24), 30, .inl f24)), ((a 25), .inl ((k 25), 30, .inl f25)), ((a 26), .inl ((k 26), 30, .inl f26)), ((a 27), .inl ((k 27), 30, .inl f27)), ((a 28), .inl ((k 28), 30, .inl f28))] H := hP
            have hD : va_D A [(h0, .inr (11, [.ref (a 1), .ref (a 2), .ref (a 3), .ref (a 4), .ref (a 5), .ref (a 6), .ref (a 7), .int 0, .ref (a 8), .int 0])), ((a 1), .inr (1, [.ref (a 9), .int 0, .ref (a 10), .int 0, .ref (a 11), .int 0, .ref (a 12), .int 0])), ((a 11), .inl ((k 11), 30, .inr (.inr (.inr (.inr g11))))), ((a 3), .inr (3, [.ref (a 1), .ref (a 2), .int 0, .ref (a 20), .ref (a 21), .ref (a 22), .ref (a 23), .ref (a 24), .ref (a 25), .ref (a 26), .ref (a 27), .ref (a 28)])), ((a 24), .inl ((k 24), 30, .inl f24)), ((a 25), .inl ((k 25), 30, .inl f25)), ((a 26), .inl ((k 26), 30, .inl f26)), ((a 27), .inl ((k 27), 30, .inl f27)), ((a 28), .inl ((k 28), 30, .inl f28))] := hD
            have hK : va_K (dC, dI) vwCl [((k 11), .object RX6), ((k 24), .int), ((k 25), .int), ((k 26), .int), ((k 27), .int), ((k 28), .int)] s := hK
            refine lv_if_eq (tgt := 109) hx hb dX11_piece_49 (by decide) (fun c_225 => ?_) (fun c_225 => absurd c_225 (fun z => z (by decide)))
            refine lv_iconst (v := 0) hx hb dX11_piece_109 (by decide) ?_
            refine lv_istore (lv' := [(10, .int 0), (0, .ref h0), (1, .int p0), (2, .int p1), (3, .int p2), (4, .int p3), (5, .int p4), (6, .int p5), (7, .int p6), (8, .int p7), (9, .int p8)]) hx hb dX11_piece_110 hl (by decide) rfl (fun ls hl => ?_)
            refine lv_iload hx hb dX11_piece_112 (lv_at hl 0 rfl) ?_
            refine lv_if_eq (tgt := 129) hx hb dX11_piece_114 (by decide) (fun c_226 => ?_) (fun c_226 => absurd c_226 (fun z => z (by decide)))
            refine lv_iconst (v := (-1)) hx hb dX11_piece_129 (by decide) ?_
            refine W.widen (k := 1) (n := 11) (Nat.le_of_ble_eq_true rfl) (Nat.le_of_ble_eq_true rfl) ?_
            exact W.iret (v := (-1)) hx hb hr (fun t ht hW => ⟨⟨(-1), (-1), rfl, rfl, (if_neg (fun z => hf_176 z.2.2.2.2.1)).symm⟩, hS.F ht⟩) hS.2.2 dX11_piece_130
        · refine lq_top (v := 0) hre_168 ?_
          rw [ht] at hP1
          have hK1 := va_K.moved hvm.symm hK1
          obtain ⟨hP, hD⟩ := va_join (wr := [(h0, .inr (11, [.ref (a 1), .ref (a 2), .ref (a 3), .ref (a 4), .ref (a 5), .ref (a 6), .ref (a 7), .int 0, .ref (a 8), .int 0])), ((a 1), .inr (1, [.ref (a 9), .int 0, .ref (a 10), .int 0, .ref (a 11), .int 0, .ref (a 12), .int 0])), ((a 11), .inl ((k 11), 30, .inr (.inr (.inr (.inr g11))))), ((a 3), .inr (3, [.ref (a 1), .ref (a 2), .int 0, .ref (a 20), .ref (a 21), .ref (a 22), .ref (a 23), .ref (a 24), .ref (a 25), .ref (a 26), .ref (a 27), .ref (a 28)])), ((a 24), .inl ((k 24), 30, .inl f24)), ((a 25), .inl ((k 25), 30, .inl f25)), ((a 26), .inl ((k 26), 30, .inl f26)), ((a 27), .inl ((k 27), 30, .inl f27)), ((a 28), .inl ((k 28), 30, .inl f28))]) (w1 := []) hP hD [] [0, 1, 2, 3, 4, 5, 6, 7, 8] rfl rfl (by decide) (by decide) hk1 hFc hP1 hD1
          have hK := (hK.sub (tys' := [((k 11), .object RX6), ((k 24), .int), ((k 25), .int), ((k 26), .int), ((k 27), .int), ((k 28), .int)]) [0, 1, 2, 3, 4, 5] rfl).app hK1
          have hP : va_P (dC, dI) vwCl [(h0, .inr (11, [.ref (a 1), .ref (a 2), .ref (a 3), .ref (a 4), .ref (a 5), .ref (a 6), .ref (a 7), .int 0, .ref (a 8), .int 0])), ((a 1), .inr (1, [.ref (a 9), .int 0, .ref (a 10), .int 0, .ref (a 11), .int 0, .ref (a 12), .int 0])), ((a 11), .inl ((k 11), 30, .inr (.inr (.inr (.inr g11))))), ((a 3), .inr (3, [.ref (a 1), .ref (a 2), .int 0, .ref (a 20), .ref (a 21), .ref (a 22), .ref (a 23), .ref (a 24), .ref (a 25), .ref (a 26), .ref (a 27), .ref (a 28)])), ((a 24), .inl ((k 24), 30, .inl f24)), ((a 25), .inl ((k 25), 30, .inl f25)), ((a 26), .inl ((k 26), 30, .inl f26)), ((a 27), .inl ((k 27), 30, .inl f27)), ((a 28), .inl ((k 28), 30, .inl f28))] H := hP
          have hD : va_D A [(h0, .inr (11, [.ref (a 1), .ref (a 2), .ref (a 3), .ref (a 4), .ref (a 5), .ref (a 6), .ref (a 7), .int 0, .ref (a 8), .int 0])), ((a 1), .inr (1, [.ref (a 9), .int 0, .ref (a 10), .int 0, .ref (a 11), .int 0, .ref (a 12), .int 0])), ((a 11), .inl ((k 11), 30, .inr (.inr (.inr (.inr g11))))), ((a 3), .inr (3, [.ref (a 1), .ref (a 2), .int 0, .ref (a 20), .ref (a 21), .ref (a 22), .ref (a 23), .ref (a 24), .ref (a 25), .ref (a 26), .ref (a 27), .ref (a 28)])), ((a 24), .inl ((k 24), 30, .inl f24)), ((a 25), .inl ((k 25), 30, .inl f25)), ((a 26), .inl ((k 26), 30, .inl f26)), ((a 27), .inl ((k 27), 30, .inl f27)), ((a 28), .inl ((k 28), 30, .inl f28))] := hD
          have hK : va_K (dC, dI) vwCl [((k 11), .object RX6), ((k 24), .int), ((k 25), .int), ((k 26), .int), ((k 27), .int), ((k 28), .int)] s := hK
          refine lv_if_eq (tgt := 109) hx hb dX11_piece_38 (by decide) (fun c_227 => ?_) (fun c_227 => absurd c_227 (fun z => z (by decide)))
          refine lv_iconst (v := 0) hx hb dX11_piece_109 (by decide) ?_
          refine lv_istore (lv' := [(10, .int 0), (0, .ref h0), (1, .int p0), (2, .int p1), (3, .int p2), (4, .int p3), (5, .int p4), (6, .int p5), (7, .int p6), (8, .int p7), (9, .int p8)]) hx hb dX11_piece_110 hl (by decide) rfl (fun ls hl => ?_)
          refine lv_iload hx hb dX11_piece_112 (lv_at hl 0 rfl) ?_
          refine lv_if_eq (tgt := 129) hx hb dX11_piece_114 (by decide) (fun c_228 => ?_) (fun c_228 => absurd c_228 (fun z => z (by decide)))
          refine lv_iconst (v := (-1)) hx hb dX11_piece_129 (by decide) ?_
          refine W.widen (k := 1) (n := 11) (Nat.le_of_ble_eq_true rfl) (Nat.le_of_ble_eq_true rfl) ?_
          exact W.iret (v := (-1)) hx hb hr (fun t ht hW => ⟨⟨(-1), (-1), rfl, rfl, (if_neg (fun z => hf_169 z.2.2.2.1)).symm⟩, hS.F ht⟩) hS.2.2 dX11_piece_130
      · refine lq_top (v := 0) hre_161 ?_
        rw [ht] at hP1
        have hK1 := va_K.moved hvm.symm hK1
        obtain ⟨hP, hD⟩ := va_join (wr := [(h0, .inr (11, [.ref (a 1), .ref (a 2), .ref (a 3), .ref (a 4), .ref (a 5), .ref (a 6), .ref (a 7), .int 0, .ref (a 8), .int 0])), ((a 1), .inr (1, [.ref (a 9), .int 0, .ref (a 10), .int 0, .ref (a 11), .int 0, .ref (a 12), .int 0])), ((a 11), .inl ((k 11), 30, .inr (.inr (.inr (.inr g11))))), ((a 3), .inr (3, [.ref (a 1), .ref (a 2), .int 0, .ref (a 20), .ref (a 21), .ref (a 22), .ref (a 23), .ref (a 24), .ref (a 25), .ref (a 26), .ref (a 27), .ref (a 28)])), ((a 24), .inl ((k 24), 30, .inl f24)), ((a 25), .inl ((k 25), 30, .inl f25)), ((a 26), .inl ((k 26), 30, .inl f26)), ((a 27), .inl ((k 27), 30, .inl f27)), ((a 28), .inl ((k 28), 30, .inl f28))]) (w1 := []) hP hD [] [0, 1, 2, 3, 4, 5, 6, 7, 8] rfl rfl (by decide) (by decide) hk1 hFc hP1 hD1
        have hK := (hK.sub (tys' := [((k 11), .object RX6), ((k 24), .int), ((k 25), .int), ((k 26), .int), ((k 27), .int), ((k 28), .int)]) [0, 1, 2, 3, 4, 5] rfl).app hK1
        have hP : va_P (dC, dI) vwCl [(h0, .inr (11, [.ref (a 1), .ref (a 2), .ref (a 3), .ref (a 4), .ref (a 5), .ref (a 6), .ref (a 7), .int 0, .ref (a 8), .int 0])), ((a 1), .inr (1, [.ref (a 9), .int 0, .ref (a 10), .int 0, .ref (a 11), .int 0, .ref (a 12), .int 0])), ((a 11), .inl ((k 11), 30, .inr (.inr (.inr (.inr g11))))), ((a 3), .inr (3, [.ref (a 1), .ref (a 2), .int 0, .ref (a 20), .ref (a 21), .ref (a 22), .ref (a 23), .ref (a 24), .ref (a 25), .ref (a 26), .ref (a 27), .ref (a 28)])), ((a 24), .inl ((k 24), 30, .inl f24)), ((a 25), .inl ((k 25), 30, .inl f25)), ((a 26), .inl ((k 26), 30, .inl f26)), ((a 27), .inl ((k 27), 30, .inl f27)), ((a 28), .inl ((k 28), 30, .inl f28))] H := hP
        have hD : va_D A [(h0, .inr (11, [.ref (a 1), .ref (a 2), .ref (a 3), .ref (a 4), .ref (a 5), .ref (a 6), .ref (a 7), .int 0, .ref (a 8), .int 0])), ((a 1), .inr (1, [.ref (a 9), .int 0, .ref (a 10), .int 0, .ref (a 11), .int 0, .ref (a 12), .int 0])), ((a 11), .inl ((k 11), 30, .inr (.inr (.inr (.inr g11))))), ((a 3), .inr (3, [.ref (a 1), .ref (a 2), .int 0, .ref (a 20), .ref (a 21), .ref (a 22), .ref (a 23), .ref (a 24), .ref (a 25), .ref (a 26), .ref (a 27), .ref (a 28)])), ((a 24), .inl ((k 24), 30, .inl f24)), ((a 25), .inl ((k 25), 30, .inl f25)), ((a 26), .inl ((k 26), 30, .inl f26)), ((a 27), .inl ((k 27), 30, .inl f27)), ((a 28), .inl ((k 28), 30, .inl f28))] := hD
        have hK : va_K (dC, dI) vwCl [((k 11), .object RX6), ((k 24), .int), ((k 25), .int), ((k 26), .int), ((k 27), .int), ((k 28), .int)] s := hK
        refine lv_if_eq (tgt := 109) hx hb dX11_piece_28 (by decide) (fun c_229 => ?_) (fun c_229 => absurd c_229 (fun z => z (by decide)))
        refine lv_iconst (v := 0) hx hb dX11_piece_109 (by decide) ?_
        refine lv_istore (lv' := [(10, .int 0), (0, .ref h0), (1, .int p0), (2, .int p1), (3, .int p2), (4, .int p3), (5, .int p4), (6, .int p5), (7, .int p6), (8, .int p7), (9, .int p8)]) hx hb dX11_piece_110 hl (by decide) rfl (fun ls hl => ?_)
        refine lv_iload hx hb dX11_piece_112 (lv_at hl 0 rfl) ?_
        refine lv_if_eq (tgt := 129) hx hb dX11_piece_114 (by decide) (fun c_230 => ?_) (fun c_230 => absurd c_230 (fun z => z (by decide)))
        refine lv_iconst (v := (-1)) hx hb dX11_piece_129 (by decide) ?_
        refine W.widen (k := 1) (n := 11) (Nat.le_of_ble_eq_true rfl) (Nat.le_of_ble_eq_true rfl) ?_
        exact W.iret (v := (-1)) hx hb hr (fun t ht hW => ⟨⟨(-1), (-1), rfl, rfl, (if_neg (fun z => hf_162 z.2.2.1)).symm⟩, hS.F ht⟩) hS.2.2 dX11_piece_130
    · refine lq_top (v := 0) hre_154 ?_
      rw [ht] at hP1
      have hK1 := va_K.moved hvm.symm hK1
      obtain ⟨hP, hD⟩ := va_join (wr := [(h0, .inr (11, [.ref (a 1), .ref (a 2), .ref (a 3), .ref (a 4), .ref (a 5), .ref (a 6), .ref (a 7), .int 0, .ref (a 8), .int 0])), ((a 1), .inr (1, [.ref (a 9), .int 0, .ref (a 10), .int 0, .ref (a 11), .int 0, .ref (a 12), .int 0])), ((a 11), .inl ((k 11), 30, .inr (.inr (.inr (.inr g11))))), ((a 3), .inr (3, [.ref (a 1), .ref (a 2), .int 0, .ref (a 20), .ref (a 21), .ref (a 22), .ref (a 23), .ref (a 24), .ref (a 25), .ref (a 26), .ref (a 27), .ref (a 28)])), ((a 24), .inl ((k 24), 30, .inl f24)), ((a 25), .inl ((k 25), 30, .inl f25)), ((a 26), .inl ((k 26), 30, .inl f26)), ((a 27), .inl ((k 27), 30, .inl f27)), ((a 28), .inl ((k 28), 30, .inl f28))]) (w1 := []) hP hD [] [0, 1, 2, 3, 4, 5, 6, 7, 8] rfl rfl (by decide) (by decide) hk1 hFc hP1 hD1
      have hK := (hK.sub (tys' := [((k 11), .object RX6), ((k 24), .int), ((k 25), .int), ((k 26), .int), ((k 27), .int), ((k 28), .int)]) [0, 1, 2, 3, 4, 5] rfl).app hK1
      have hP : va_P (dC, dI) vwCl [(h0, .inr (11, [.ref (a 1), .ref (a 2), .ref (a 3), .ref (a 4), .ref (a 5), .ref (a 6), .ref (a 7), .int 0, .ref (a 8), .int 0])), ((a 1), .inr (1, [.ref (a 9), .int 0, .ref (a 10), .int 0, .ref (a 11), .int 0, .ref (a 12), .int 0])), ((a 11), .inl ((k 11), 30, .inr (.inr (.inr (.inr g11))))), ((a 3), .inr (3, [.ref (a 1), .ref (a 2), .int 0, .ref (a 20), .ref (a 21), .ref (a 22), .ref (a 23), .ref (a 24), .ref (a 25), .ref (a 26), .ref (a 27), .ref (a 28)])), ((a 24), .inl ((k 24), 30, .inl f24)), ((a 25), .inl ((k 25), 30, .inl f25)), ((a 26), .inl ((k 26), 30, .inl f26)), ((a 27), .inl ((k 27), 30, .inl f27)), ((a 28), .inl ((k 28), 30, .inl f28))] H := hP
      have hD : va_D A [(h0, .inr (11, [.ref (a 1), .ref (a 2), .ref (a 3), .ref (a 4), .ref (a 5), .ref (a 6), .ref (a 7), .int 0, .ref (a 8), .int 0])), ((a 1), .inr (1, [.ref (a 9), .int 0, .ref (a 10), .int 0, .ref (a 11), .int 0, .ref (a 12), .int 0])), ((a 11), .inl ((k 11), 30, .inr (.inr (.inr (.inr g11))))), ((a 3), .inr (3, [.ref (a 1), .ref (a 2), .int 0, .ref (a 20), .ref (a 21), .ref (a 22), .ref (a 23), .ref (a 24), .ref (a 25), .ref (a 26), .ref (a 27), .ref (a 28)])), ((a 24), .inl ((k 24), 30, .inl f24)), ((a 25), .inl ((k 25), 30, .inl f25)), ((a 26), .inl ((k 26), 30, .inl f26)), ((a 27), .inl ((k 27), 30, .inl f27)), ((a 28), .inl ((k 28), 30, .inl f28))] := hD
      have hK : va_K (dC, dI) vwCl [((k 11), .object RX6), ((k 24), .int), ((k 25), .int), ((k 26), .int), ((k 27), .int), ((k 28), .int)] s := hK
      refine lv_if_eq (tgt := 109) hx hb dX11_piece_17 (by decide) (fun c_231 => ?_) (fun c_231 => absurd c_231 (fun z => z (by decide)))
      refine lv_iconst (v := 0) hx hb dX11_piece_109 (by decide) ?_
      refine lv_istore (lv' := [(10, .int 0), (0, .ref h0), (1, .int p0), (2, .int p1), (3, .int p2), (4, .int p3), (5, .int p4), (6, .int p5), (7, .int p6), (8, .int p7), (9, .int p8)]) hx hb dX11_piece_110 hl (by decide) rfl (fun ls hl => ?_)
      refine lv_iload hx hb dX11_piece_112 (lv_at hl 0 rfl) ?_
      refine lv_if_eq (tgt := 129) hx hb dX11_piece_114 (by decide) (fun c_232 => ?_) (fun c_232 => absurd c_232 (fun z => z (by decide)))
      refine lv_iconst (v := (-1)) hx hb dX11_piece_129 (by decide) ?_
      refine W.widen (k := 1) (n := 11) (Nat.le_of_ble_eq_true rfl) (Nat.le_of_ble_eq_true rfl) ?_
      exact W.iret (v := (-1)) hx hb hr (fun t ht hW => ⟨⟨(-1), (-1), rfl, rfl, (if_neg (fun z => hf_155 z.2.1)).symm⟩, hS.F ht⟩) hS.2.2 dX11_piece_130
  · refine lq_top (v := 0) hre_147 ?_
    rw [ht] at hP1
    have hK1 := va_K.moved hvm.symm hK1
    obtain ⟨hP, hD⟩ := va_join (wr := [(h0, .inr (11, [.ref (a 1), .ref (a 2), .ref (a 3), .ref (a 4), .ref (a 5), .ref (a 6), .ref (a 7), .int 0, .ref (a 8), .int 0])), ((a 1), .inr (1, [.ref (a 9), .int 0, .ref (a 10), .int 0, .ref (a 11), .int 0, .ref (a 12), .int 0])), ((a 11), .inl ((k 11), 30, .inr (.inr (.inr (.inr g11))))), ((a 3), .inr (3, [.ref (a 1), .ref (a 2), .int 0, .ref (a 20), .ref (a 21), .ref (a 22), .ref (a 23), .ref (a 24), .ref (a 25), .ref (a 26), .ref (a 27), .ref (a 28)])), ((a 24), .inl ((k 24), 30, .inl f24)), ((a 25), .inl ((k 25), 30, .inl f25)), ((a 26), .inl ((k 26), 30, .inl f26)), ((a 27), .inl ((k 27), 30, .inl f27)), ((a 28), .inl ((k 28), 30, .inl f28))]) (w1 := []) hP hD [] [0, 1, 2, 3, 4, 5, 6, 7, 8] rfl rfl (by decide) (by decide) hk1 hFc hP1 hD1
    have hK := (hK.sub (tys' := [((k 11), .object RX6), ((k 24), .int), ((k 25), .int), ((k 26), .int), ((k 27), .int), ((k 28), .int)]) [0, 1, 2, 3, 4, 5] rfl).app hK1
    have hP : va_P (dC, dI) vwCl [(h0, .inr (11, [.ref (a 1), .ref (a 2), .ref (a 3), .ref (a 4), .ref (a 5), .ref (a 6), .ref (a 7), .int 0, .ref (a 8), .int 0])), ((a 1), .inr (1, [.ref (a 9), .int 0, .ref (a 10), .int 0, .ref (a 11), .int 0, .ref (a 12), .int 0])), ((a 11), .inl ((k 11), 30, .inr (.inr (.inr (.inr g11))))), ((a 3), .inr (3, [.ref (a 1), .ref (a 2), .int 0, .ref (a 20), .ref (a 21), .ref (a 22), .ref (a 23), .ref (a 24), .ref (a 25), .ref (a 26), .ref (a 27), .ref (a 28)])), ((a 24), .inl ((k 24), 30, .inl f24)), ((a 25), .inl ((k 25), 30, .inl f25)), ((a 26), .inl ((k 26), 30, .inl f26)), ((a 27), .inl ((k 27), 30, .inl f27)), ((a 28), .inl ((k 28), 30, .inl f28))] H := hP
    have hD : va_D A [(h0, .inr (11, [.ref (a 1), .ref (a 2), .ref (a 3), .ref (a 4), .ref (a 5), .ref (a 6), .ref (a 7), .int 0, .ref (a 8), .int 0])), ((a 1), .inr (1, [.ref (a 9), .int 0, .ref (a 10), .int 0, .ref (a 11), .int 0, .ref (a 12), .int 0])), ((a 11), .inl ((k 11), 30, .inr (.inr (.inr (.inr g11))))), ((a 3), .inr (3, [.ref (a 1), .ref (a 2), .int 0, .ref (a 20), .ref (a 21), .ref (a 22), .ref (a 23), .ref (a 24), .ref (a 25), .ref (a 26), .ref (a 27), .ref (a 28)])), ((a 24), .inl ((k 24), 30, .inl f24)), ((a 25), .inl ((k 25), 30, .inl f25)), ((a 26), .inl ((k 26), 30, .inl f26)), ((a 27), .inl ((k 27), 30, .inl f27)), ((a 28), .inl ((k 28), 30, .inl f28))] := hD
    have hK : va_K (dC, dI) vwCl [((k 11), .object RX6), ((k 24), .int), ((k 25), .int), ((k 26), .int), ((k 27), .int), ((k 28), .int)] s := hK
    refine lv_if_eq (tgt := 109) hx hb dX11_piece_7 (by decide) (fun c_233 => ?_) (fun c_233 => absurd c_233 (fun z => z (by decide)))
    refine lv_iconst (v := 0) hx hb dX11_piece_109 (by decide) ?_
    refine lv_istore (lv' := [(10, .int 0), (0, .ref h0), (1, .int p0), (2, .int p1), (3, .int p2), (4, .int p3), (5, .int p4), (6, .int p5), (7, .int p6), (8, .int p7), (9, .int p8)]) hx hb dX11_piece_110 hl (by decide) rfl (fun ls hl => ?_)
    refine lv_iload hx hb dX11_piece_112 (lv_at hl 0 rfl) ?_
    refine lv_if_eq (tgt := 129) hx hb dX11_piece_114 (by decide) (fun c_234 => ?_) (fun c_234 => absurd c_234 (fun z => z (by decide)))
    refine lv_iconst (v := (-1)) hx hb dX11_piece_129 (by decide) ?_
    refine W.widen (k := 1) (n := 11) (Nat.le_of_ble_eq_true rfl) (Nat.le_of_ble_eq_true rfl) ?_
    exact W.iret (v := (-1)) hx hb hr (fun t ht hW => ⟨⟨(-1), (-1), rfl, rfl, (if_neg (fun z => hf_148 z.1)).symm⟩, hS.F ht⟩) hS.2.2 dX11_piece_130
def wo_c_count : List Cond := [.fieldLink RX11 28 "TypingPool" "floor" "LTypingPool$Floor;", .fieldLink RX11 99 "TypingPool$Floor" "now" "I", .fieldLink RX11 10 "TypingPool" "book" "LTypingPool$Book;", .fieldLink RX11 79 "TypingPool$Book" "handCount" "I", .fieldLink RX11 112 "TypingPool$Book" "pieceCount" "I", .fieldLink RX11 19 "TypingPool" "rules" "LTypingPool$Rules;", .fieldLink RX11 156 "TypingPool$Rules" "count" "I", .fieldLink RX11 40 "TypingPool" "ledger" "LTypingPool$Ledger;", .fieldLink RX11 238 "TypingPool$Ledger" "count" "I", .fieldLink RX11 102 "TypingPool$Book" "awayCount" "I", .methodLink RX11 239 yX3_inState, .instanceMethod yX3_inState, .selects RX3 yX3_inState yX3_inState, .initialized RX3, .methodLink RX11 242 yX3_lateOnes, .instanceMethod yX3_lateOnes, .selects RX3 yX3_lateOnes yX3_lateOnes, .fieldLink RX11 245 "TypingPool$Ledger" "as" "I", .fieldLink RX11 65 "TypingPool" "rowLength" "I", .fieldLink RX11 57 "TypingPool" "textLength" "I", .fieldLink RX11 72 "TypingPool$Book" "postCount" "I"]
def wm_c_count : List Cond := .code yX11_count cX11_count 2 (some .int) :: (wo_c_count ++ (wsX110 ++ (wsX30 ++ (wsX10 ++ (wsX100 ++ (wsX50 ++ (wm_c_inState0 ++ (wm_c_lateOnes0 ++ ([] : List Cond)))))))))
theorem gd_c_count : ∀ w ∈ wm_c_count, goodWord w = true := gd_c rfl (gd_a (by decide) (gd_a gd_wsX110 (gd_a gd_wsX30 (gd_a gd_wsX10 (gd_a gd_wsX100 (gd_a gd_wsX50 (gd_a gd_c_inState0 (gd_a gd_c_lateOnes0 gd_nil))))))))
set_option maxRecDepth 20000 in
theorem im_c_count : ∀ w ∈ wm_c_count, w ∈ lw_tbl := im_c (in_r [.code yX11_count cX11_count 2 (some .int)] [886] (by decide +kernel)) (in_app (in_r wo_c_count [561, 429, 559, 124, 133, 560, 400, 563, 493, 137, 887, 888, 889, 83, 891, 892, 893, 495, 568, 566, 119] (by decide +kernel)) (in_app im_wsX110 (in_app im_wsX30 (in_app im_wsX10 (in_app im_wsX100 (in_app im_wsX50 (in_app im_c_inState0 (in_app im_c_lateOnes0 im_nil))))))))
set_option maxHeartbeats 4000000 in
set_option maxRecDepth 100000 in
theorem c_count (l : Launch) (dC : Nat → ClassId) (dI : Nat → Nat → Nat) (ad av : Nat → Nat) (sz : Nat) (h0 : Nat) (a : Nat → Nat) (k : Nat → ClassId) (p0 : Int32) : Met l yX11_count wm_c_count ({ frames := 4, cells := 0, slots := 0, locals := 200 }) (pr_ ad av (dC, dI) sz [.ref h0, .int p0] [(h0, .inr (11, [.ref (a 1), .ref (a 2), .ref (a 3), .ref (a 4), .ref (a 5), .ref (a 6), .ref (a 7), .int 0, .ref (a 8), .int 0])), ((a 1), .inr (1, [.ref (a 9), .int 0, .ref (a 10), .int 0, .ref (a 11), .int 0, .ref (a 12), .int 0])), ((a 3), .inr (3, [.ref (a 1), .ref (a 2), .int 0, .ref (a 20), .ref (a 21), .ref (a 22), .ref (a 23), .ref (a 24), .ref (a 25), .ref (a 26), .ref (a 27), .ref (a 28)])), ((a 2), .inr (10, [.ref (a 13), .int 0, .ref (a 14), .ref (a 15), .ref (a 16), .ref (a 17)])), ((a 5), .inr (5, [.ref (a 1), .ref (a 2), .ref (a 3), .ref (a 40), .int 0, .int 99]))] []) (va_Qi (fun (r u : Int32) => u = r) (fun (r : Int32) (t : State) => (r = sp_count p0)) (va_A [(h0, .inr (11, [.ref (a 1), .ref (a 2), .ref (a 3), .ref (a 4), .ref (a 5), .ref (a 6), .ref (a 7), .int 0, .ref (a 8), .int 0])), ((a 1), .inr (1, [.ref (a 9), .int 0, .ref (a 10), .int 0, .ref (a 11), .int 0, .ref (a 12), .int 0])), ((a 3), .inr (3, [.ref (a 1), .ref (a 2), .int 0, .ref (a 20), .ref (a 21), .ref (a 22), .ref (a 23), .ref (a 24), .ref (a 25), .ref (a 26), .ref (a 27), .ref (a 28)])), ((a 2), .inr (10, [.ref (a 13), .int 0, .ref (a 14), .ref (a 15), .ref (a 16), .ref (a 17)])), ((a 5), .inr (5, [.ref (a 1), .ref (a 2), .ref (a 3), .ref (a 40), .int 0, .int 99]))] sz)) 0 0 (va_A [(h0, .inr (11, [.ref (a 1), .ref (a 2), .ref (a 3), .ref (a 4), .ref (a 5), .ref (a 6), .ref (a 7), .int 0, .ref (a 8), .int 0])), ((a 1), .inr (1, [.ref (a 9), .int 0, .ref (a 10), .int 0, .ref (a 11), .int 0, .ref (a 12), .int 0])), ((a 3), .inr (3, [.ref (a 1), .ref (a 2), .int 0, .ref (a 20), .ref (a 21), .ref (a 22), .ref (a 23), .ref (a 24), .ref (a 25), .ref (a 26), .ref (a 27), .ref (a 28)])), ((a 2), .inr (10, [.ref (a 13), .int 0, .ref (a 14), .ref (a 15), .ref (a 16), .ref (a 17)])), ((a 5), .inr (5, [.ref (a 1), .ref (a 2), .ref (a 3), .ref (a 40), .int 0, .int 99]))] sz) := by
  refine Met.ofW (cc := cX11_count) (maxL := 2) (ret := (some .int)) (by decide) rfl ?_
  intro p e s m args below meth c s₁ B hml hv
  obtain ⟨rfl, hsz, hP, hK, hD0, hM⟩ := hv
  have hx := B.exec
  have hb := B.bytes
  have hr := B.returns
  have hts := atoms_spec (ws := wm_c_count) B.pre
  have hown : s.vm.findClass RX11 = some m.cls := findClass_of_methodNamed B.named
  have hlocks := B.notSynchronized
  subst hsz
  have hD := hD0.self (sz := s.heap.size)
  generalize hAe : va_A [(h0, .inr (11, [.ref (a 1), .ref (a 2), .ref (a 3), .ref (a 4), .ref (a 5), .ref (a 6), .ref (a 7), .int 0, .ref (a 8), .int 0])), ((a 1), .inr (1, [.ref (a 9), .int 0, .ref (a 10), .int 0, .ref (a 11), .int 0, .ref (a 12), .int 0])), ((a 3), .inr (3, [.ref (a 1), .ref (a 2), .int 0, .ref (a 20), .ref (a 21), .ref (a 22), .ref (a 23), .ref (a 24), .ref (a 25), .ref (a 26), .ref (a 27), .ref (a 28)])), ((a 2), .inr (10, [.ref (a 13), .int 0, .ref (a 14), .ref (a 15), .ref (a 16), .ref (a 17)])), ((a 5), .inr (5, [.ref (a 1), .ref (a 2), .ref (a 3), .ref (a 40), .int 0, .int 99]))] s.heap.size = A at hD hM ⊢
  have hA : ∀ q : Nat, s.heap.size ≤ q → A q := fun q h => by rw [← hAe]; exact Or.inr h
  have hS : va_S A s.heap s.heap [] := va_S.rf
  have hP : va_P (dC, dI) vwCl [(h0, .inr (11, [.ref (a 1), .ref (a 2), .ref (a 3), .ref (a 4), .ref (a 5), .ref (a 6), .ref (a 7), .int 0, .ref (a 8), .int 0])), ((a 1), .inr (1, [.ref (a 9), .int 0, .ref (a 10), .int 0, .ref (a 11), .int 0, .ref (a 12), .int 0])), ((a 3), .inr (3, [.ref (a 1), .ref (a 2), .int 0, .ref (a 20), .ref (a 21), .ref (a 22), .ref (a 23), .ref (a 24), .ref (a 25), .ref (a 26), .ref (a 27), .ref (a 28)])), ((a 2), .inr (10, [.ref (a 13), .int 0, .ref (a 14), .ref (a 15), .ref (a 16), .ref (a 17)])), ((a 5), .inr (5, [.ref (a 1), .ref (a 2), .ref (a 3), .ref (a 40), .int 0, .int 99]))] s.heap := hP
  have hl := lv_entry ([.ref h0, .int p0]) (n := 2) (Nat.le_of_ble_eq_true rfl)
  rw [lg_entry_eq]
  generalize (lg_sl ([.ref h0, .int p0]) ++ List.replicate (2 - (lg_sl ([.ref h0, .int p0])).length) Slot.unset).toArray = ls at hl ⊢
  have hl : lv_has ls 2 [(0, .ref h0), (1, .int p0)] := hl
  refine lv_iload_n hx hb dX11_count_0 rfl (lv_at hl 1 rfl) ?_
  rcases tb_12 p0 with t_238 | t_238 | t_238 | t_238 | t_238 | t_238 | t_238 | t_238 | t_238 | t_238 | t_238 | t_238 | t_238 | t_238
  · refine lq_top (v := 0) t_238 ?_
    refine lv_tableIn (tgt := 68) hx hb dX11_count_1 (by decide) (by decide) (off := 67) (by decide) (by decide) ?_
    refine lv_aload_n hx hb dX11_count_68 rfl (lv_at hl 0 rfl) ?_
    refine va_get (D := (dC, dI)) (ci := 11) (v := .ref (a 3)) (C := RX11) (T := TX11) (N := 10) hx hb hts (fun _ hh => (List.mem_cons_of_mem _ (List.mem_append_right _ (List.mem_append_left _ hh)))) hown hK hP 0 rfl rfl 2 (by decide) (hts (.fieldLink RX11 28 "TypingPool" "floor" "LTypingPool$Floor;") (List.mem_cons_of_mem _ (List.mem_append_left _ (List.mem_of_getElem? (i := 0) rfl)))) (fun _ h9 => h9) rfl dX11_count_69 ?_
    refine va_get (D := (dC, dI)) (ci := 3) (v := .int 0) (C := RX3) (T := TX3) (N := 12) hx hb hts (fun _ hh => (List.mem_cons_of_mem _ (List.mem_append_right _ (List.mem_append_right _ (List.mem_append_left _ hh))))) hown hK hP 2 rfl rfl 2 (by decide) (hts (.fieldLink RX11 99 "TypingPool$Floor" "now" "I") (List.mem_cons_of_mem _ (List.mem_append_left _ (List.mem_of_getElem? (i := 1) rfl)))) (fun _ h9 => h9) rfl dX11_count_72 ?_
    exact W.iret (v := 0) hx hb hr (fun t ht hW => ⟨⟨0, 0, rfl, rfl, (show (0 : Int32) = sp_count p0 by rw [t_238]; decide)⟩, hS.F ht⟩) hS.2.2 dX11_count_75
  · refine lq_top (v := 1) t_238 ?_
    refine lv_tableIn (tgt := 76) hx hb dX11_count_1 (by decide) (by decide) (off := 75) (by decide) (by decide) ?_
    refine lv_aload_n hx hb dX11_count_76 rfl (lv_at hl 0 rfl) ?_
    refine va_get (D := (dC, dI)) (ci := 11) (v := .ref (a 1)) (C := RX11) (T := TX11) (N := 10) hx hb hts (fun _ hh => (List.mem_cons_of_mem _ (List.mem_append_right _ (List.mem_append_left _ hh)))) hown hK hP 0 rfl rfl 0 (by decide) (hts (.fieldLink RX11 10 "TypingPool" "book" "LTypingPool$Book;") (List.mem_cons_of_mem _ (List.mem_append_left _ (List.mem_of_getElem? (i := 2) rfl)))) (fun _ h9 => h9) rfl dX11_count_77 ?_
    refine va_get (D := (dC, dI)) (ci := 1) (v := .int 0) (C := RX1) (T := TX1) (N := 8) hx hb hts (fun _ hh => (List.mem_cons_of_mem _ (List.mem_append_right _ (List.mem_append_right _ (List.mem_append_right _ (List.mem_append_left _ hh)))))) hown hK hP 1 rfl rfl 3 (by decide) (hts (.fieldLink RX11 79 "TypingPool$Book" "handCount" "I") (List.mem_cons_of_mem _ (List.mem_append_left _ (List.mem_of_getElem? (i := 3) rfl)))) (fun _ h9 => h9) rfl dX11_count_80 ?_
    exact W.iret (v := 0) hx hb hr (fun t ht hW => ⟨⟨0, 0, rfl, rfl, (show (0 : Int32) = sp_count p0 by rw [t_238]; decide)⟩, hS.F ht⟩) hS.2.2 dX11_count_83
  · refine lq_top (v := 2) t_238 ?_
    refine lv_tableIn (tgt := 84) hx hb dX11_count_1 (by decide) (by decide) (off := 83) (by decide) (by decide) ?_
    refine lv_aload_n hx hb dX11_count_84 rfl (lv_at hl 0 rfl) ?_
    refine va_get (D := (dC, dI)) (ci := 11) (v := .ref (a 1)) (C := RX11) (T := TX11) (N := 10) hx hb hts (fun _ hh => (List.mem_cons_of_mem _ (List.mem_append_right _ (List.mem_append_left _ hh)))) hown hK hP 0 rfl rfl 0 (by decide) (hts (.fieldLink RX11 10 "TypingPool" "book" "LTypingPool$Book;") (List.mem_cons_of_mem _ (List.mem_append_left _ (List.mem_of_getElem? (i := 2) rfl)))) (fun _ h9 => h9) rfl dX11_count_85 ?_
    refine va_get (D := (dC, dI)) (ci := 1) (v := .int 0) (C := RX1) (T := TX1) (N := 8) hx hb hts (fun _ hh => (List.mem_cons_of_mem _ (List.mem_append_right _ (List.mem_append_right _ (List.mem_append_right _ (List.mem_append_left _ hh)))))) hown hK hP 1 rfl rfl 5 (by decide) (hts (.fieldLink RX11 112 "TypingPool$Book" "pieceCount" "I") (List.mem_cons_of_mem _ (List.mem_append_left _ (List.mem_of_getElem? (i := 4) rfl)))) (fun _ h9 => h9) rfl dX11_count_88 ?_
    exact W.iret (v := 0) hx hb hr (fun t ht hW => ⟨⟨0, 0, rfl, rfl, (show (0 : Int32) = sp_count p0 by rw [t_238]; decide)⟩, hS.F ht⟩) hS.2.2 dX11_count_91
  · refine lq_top (v := 3) t_238 ?_
    refine lv_tableIn (tgt := 92) hx hb dX11_count_1 (by decide) (by decide) (off := 91) (by decide) (by decide) ?_
    refine lv_aload_n hx hb dX11_count_92 rfl (lv_at hl 0 rfl) ?_
    refine va_get (D := (dC, dI)) (ci := 11) (v := .ref (a 2)) (C := RX11) (T := TX11) (N := 10) hx hb hts (fun _ hh => (List.mem_cons_of_mem _ (List.mem_append_right _ (List.mem_append_left _ hh)))) hown hK hP 0 rfl rfl 1 (by decide) (hts (.fieldLink RX11 19 "TypingPool" "rules" "LTypingPool$Rules;") (List.mem_cons_of_mem _ (List.mem_append_left _ (List.mem_of_getElem? (i := 5) rfl)))) (fun _ h9 => h9) rfl dX11_count_93 ?_
    refine va_get (D := (dC, dI)) (ci := 10) (v := .int 0) (C := RX10) (T := TX10) (N := 6) hx hb hts (fun _ hh => (List.mem_cons_of_mem _ (List.mem_append_right _ (List.mem_append_right _ (List.mem_append_right _ (List.mem_append_right _ (List.mem_append_left _ hh))))))) hown hK hP 3 rfl rfl 1 (by decide) (hts (.fieldLink RX11 156 "TypingPool$Rules" "count" "I") (List.mem_cons_of_mem _ (List.mem_append_left _ (List.mem_of_getElem? (i := 6) rfl)))) (fun _ h9 => h9) rfl dX11_count_96 ?_
    exact W.iret (v := 0) hx hb hr (fun t ht hW => ⟨⟨0, 0, rfl, rfl, (show (0 : Int32) = sp_count p0 by rw [t_238]; decide)⟩, hS.F ht⟩) hS.2.2 dX11_count_99
  · refine lq_top (v := 4) t_238 ?_
    refine lv_tableIn (tgt := 100) hx hb dX11_count_1 (by decide) (by decide) (off := 99) (by decide) (by decide) ?_
    refine lv_aload_n hx hb dX11_count_100 rfl (lv_at hl 0 rfl) ?_
    refine va_get (D := (dC, dI)) (ci := 11) (v := .ref (a 5)) (C := RX11) (T := TX11) (N := 10) hx hb hts (fun _ hh => (List.mem_cons_of_mem _ (List.mem_append_right _ (List.mem_append_left _ hh)))) hown hK hP 0 rfl rfl 4 (by decide) (hts (.fieldLink RX11 40 "TypingPool" "ledger" "LTypingPool$Ledger;") (List.mem_cons_of_mem _ (List.mem_append_left _ (List.mem_of_getElem? (i := 7) rfl)))) (fun _ h9 => h9) rfl dX11_count_101 ?_
    refine va_get (D := (dC, dI)) (ci := 5) (v := .int 0) (C := RX5) (T := TX5) (N := 6) hx hb hts (fun _ hh => (List.mem_cons_of_mem _ (List.mem_append_right _ (List.mem_append_right _ (List.mem_append_right _ (List.mem_append_right _ (List.mem_append_right _ (List.mem_append_left _ hh)))))))) hown hK hP 4 rfl rfl 4 (by decide) (hts (.fieldLink RX11 238 "TypingPool$Ledger" "count" "I") (List.mem_cons_of_mem _ (List.mem_append_left _ (List.mem_of_getElem? (i := 8) rfl)))) (fun _ h9 => h9) rfl dX11_count_104 ?_
    exact W.iret (v := 0) hx hb hr (fun t ht hW => ⟨⟨0, 0, rfl, rfl, (show (0 : Int32) = sp_count p0 by rw [t_238]; decide)⟩, hS.F ht⟩) hS.2.2 dX11_count_107
  · refine lq_top (v := 5) t_238 ?_
    refine lv_tableIn (tgt := 108) hx hb dX11_count_1 (by decide) (by decide) (off := 107) (by decide) (by decide) ?_
    refine lv_aload_n hx hb dX11_count_108 rfl (lv_at hl 0 rfl) ?_
    refine va_get (D := (dC, dI)) (ci := 11) (v := .ref (a 1)) (C := RX11) (T := TX11) (N := 10) hx hb hts (fun _ hh => (List.mem_cons_of_mem _ (List.mem_append_right _ (List.mem_append_left _ hh)))) hown hK hP 0 rfl rfl 0 (by decide) (hts (.fieldLink RX11 10 "TypingPool" "book" "LTypingPool$Book;") (List.mem_cons_of_mem _ (List.mem_append_left _ (List.mem_of_getElem? (i := 2) rfl)))) (fun _ h9 => h9) rfl dX11_count_109 ?_
    refine va_get (D := (dC, dI)) (ci := 1) (v := .int 0) (C := RX1) (T := TX1) (N := 8) hx hb hts (fun _ hh => (List.mem_cons_of_mem _ (List.mem_append_right _ (List.mem_append_right _ (List.mem_append_right _ (List.mem_append_left _ hh)))))) hown hK hP 1 rfl rfl 7 (by decide) (hts (.fieldLink RX11 102 "TypingPool$Book" "awayCount" "I") (List.mem_cons_of_mem _ (List.mem_append_left _ (List.mem_of_getElem? (i := 9) rfl)))) (fun _ h9 => h9) rfl dX11_count_112 ?_
    exact W.iret (v := 0) hx hb hr (fun t ht hW => ⟨⟨0, 0, rfl, rfl, (show (0 : Int32) = sp_count p0 by rw [t_238]; decide)⟩, hS.F ht⟩) hS.2.2 dX11_count_115
  · refine lq_top (v := 6) t_238 ?_
    refine lv_tableIn (tgt := 116) hx hb dX11_count_1 (by decide) (by decide) (off := 115) (by decide) (by decide) ?_
    refine lv_aload_n hx hb dX11_count_116 rfl (lv_at hl 0 rfl) ?_
    refine va_get (D := (dC, dI)) (ci := 11) (v := .ref (a 3)) (C := RX11) (T := TX11) (N := 10) hx hb hts (fun _ hh => (List.mem_cons_of_mem _ (List.mem_append_right _ (List.mem_append_left _ hh)))) hown hK hP 0 rfl rfl 2 (by decide) (hts (.fieldLink RX11 28 "TypingPool" "floor" "LTypingPool$Floor;") (List.mem_cons_of_mem _ (List.mem_append_left _ (List.mem_of_getElem? (i := 0) rfl)))) (fun _ h9 => h9) rfl dX11_count_117 ?_
    refine lv_iconst (v := 1) hx hb dX11_count_120 (by decide) ?_
    have hPc := hP.sub (ws' := [((a 3), .inr (3, [.ref (a 1), .ref (a 2), .int 0, .ref (a 20), .ref (a 21), .ref (a 22), .ref (a 23), .ref (a 24), .ref (a 25), .ref (a 26), .ref (a 27), .ref (a 28)])), ((a 1), .inr (1, [.ref (a 9), .int 0, .ref (a 10), .int 0, .ref (a 11), .int 0, .ref (a 12), .int 0]))]) [2, 1] rfl
    have hDc := hD.sub (ws' := [((a 3), .inr (3, [.ref (a 1), .ref (a 2), .int 0, .ref (a 20), .ref (a 21), .ref (a 22), .ref (a 23), .ref (a 24), .ref (a 25), .ref (a 26), .ref (a 27), .ref (a 28)])), ((a 1), .inr (1, [.ref (a 9), .int 0, .ref (a 10), .int 0, .ref (a 11), .int 0, .ref (a 12), .int 0]))]) [2, 1] (by decide) rfl
    have hKc := hK.sub (tys' := []) [] rfl
    have hFc := va_free (wc := [((a 3), .inr (3, [.ref (a 1), .ref (a 2), .int 0, .ref (a 20), .ref (a 21), .ref (a 22), .ref (a 23), .ref (a 24), .ref (a 25), .ref (a 26), .ref (a 27), .ref (a 28)])), ((a 1), .inr (1, [.ref (a 9), .int 0, .ref (a 10), .int 0, .ref (a 11), .int 0, .ref (a 12), .int 0]))]) hD hS hA [2, 1] rfl
    refine va_calli (va_runV (As := [.int 1]) (rest := []) ⟨hx, hb, hml, hown, hts⟩ (c_inState0 l dC dI ad av s.heap.size (a 3) (a 1) (a 2) (a 20) (a 21) (a 22) (a 23) (a 24) (a 25) (a 26) (a 27) (a 28) (a 9) (a 10) (a 11) (a 12) 0 1 ) (cwV 1 hts (gi_4 (List.mem_cons_of_mem _ (List.mem_append_left _ (List.mem_of_getElem? (i := 10) rfl))) (List.mem_cons_of_mem _ (List.mem_append_left _ (List.mem_of_getElem? (i := 11) rfl))) (List.mem_cons_of_mem _ (List.mem_append_left _ (List.mem_of_getElem? (i := 12) rfl))) (List.mem_cons_of_mem _ (List.mem_append_left _ (List.mem_of_getElem? (i := 13) rfl))) (fun _ hh => (List.mem_cons_of_mem _ (List.mem_append_right _ (List.mem_append_right _ (List.mem_append_right _ (List.mem_append_right _ (List.mem_append_right _ (List.mem_append_right _ (List.mem_append_left _ hh))))))))) gd_c_inState0) rfl rfl rfl (by decide +kernel) ⟨Nat.le_of_ble_eq_true rfl, Nat.le_of_ble_eq_true rfl⟩) ⟨pr_blind, va_recv hKc hPc (ci := 3) (q0 := 0) rfl rfl, pr_use hPc hKc hDc hFc hS hM⟩ rfl rfl hl.1 rfl (lv_room (Nat.le_of_ble_eq_true rfl)) dX11_count_121 ⟨Nat.le_of_ble_eq_true rfl, Nat.le_of_ble_eq_true rfl⟩) hS (fun q _ h => hFc q h) hFc (fun r_239 u t H locs ht hvm hw hB hz1 hk1 hS => ?_)
    refine W.widen (k := 0) (n := 0) (Nat.le_of_ble_eq_true rfl) (Nat.le_of_ble_eq_true rfl) ?_
    subst hw
    obtain ⟨hre_240, hP1, hK1, hD1⟩ := hB
    refine lq_top (v := 0) hre_240 ?_
    rw [ht] at hP1
    have hK1 := va_K.moved hvm.symm hK1
    obtain ⟨hP, hD⟩ := va_join (wr := [(h0, .inr (11, [.ref (a 1), .ref (a 2), .ref (a 3), .ref (a 4), .ref (a 5), .ref (a 6), .ref (a 7), .int 0, .ref (a 8), .int 0])), ((a 2), .inr (10, [.ref (a 13), .int 0, .ref (a 14), .ref (a 15), .ref (a 16), .ref (a 17)])), ((a 5), .inr (5, [.ref (a 1), .ref (a 2), .ref (a 3), .ref (a 40), .int 0, .int 99]))]) (w1 := [((a 3), .inr (3, [.ref (a 1), .ref (a 2), .int 0, .ref (a 20), .ref (a 21), .ref (a 22), .ref (a 23), .ref (a 24), .ref (a 25), .ref (a 26), .ref (a 27), .ref (a 28)])), ((a 1), .inr (1, [.ref (a 9), .int 0, .ref (a 10), .int 0, .ref (a 11), .int 0, .ref (a 12), .int 0]))]) hP hD [2, 1] [0, 3, 4] rfl rfl (by decide) (by decide) hk1 hFc hP1 hD1
    have hK := (hK.sub (tys' := []) [] rfl).app hK1
    have hP : va_P (dC, dI) vwCl [(h0, .inr (11, [.ref (a 1), .ref (a 2), .ref (a 3), .ref (a 4), .ref (a 5), .ref (a 6), .ref (a 7), .int 0, .ref (a 8), .int 0])), ((a 2), .inr (10, [.ref (a 13), .int 0, .ref (a 14), .ref (a 15), .ref (a 16), .ref (a 17)])), ((a 5), .inr (5, [.ref (a 1), .ref (a 2), .ref (a 3), .ref (a 40), .int 0, .int 99])), ((a 3), .inr (3, [.ref (a 1), .ref (a 2), .int 0, .ref (a 20), .ref (a 21), .ref (a 22), .ref (a 23), .ref (a 24), .ref (a 25), .ref (a 26), .ref (a 27), .ref (a 28)])), ((a 1), .inr (1, [.ref (a 9), .int 0, .ref (a 10), .int 0, .ref (a 11), .int 0, .ref (a 12), .int 0]))] H := hP
    have hD : va_D A [(h0, .inr (11, [.ref (a 1), .ref (a 2), .ref (a 3), .ref (a 4), .ref (a 5), .ref (a 6), .ref (a 7), .int 0, .ref (a 8), .int 0])), ((a 2), .inr (10, [.ref (a 13), .int 0, .ref (a 14), .ref (a 15), .ref (a 16), .ref (a 17)])), ((a 5), .inr (5, [.ref (a 1), .ref (a 2), .ref (a 3), .ref (a 40), .int 0, .int 99])), ((a 3), .inr (3, [.ref (a 1), .ref (a 2), .int 0, .ref (a 20), .ref (a 21), .ref (a 22), .ref (a 23), .ref (a 24), .ref (a 25), .ref (a 26), .ref (a 27), .ref (a 28)])), ((a 1), .inr (1, [.ref (a 9), .int 0, .ref (a 10), .int 0, .ref (a 11), .int 0, .ref (a 12), .int 0]))] := hD
    have hK : va_K (dC, dI) vwCl [] s := hK
    exact W.iret (v := 0) hx hb hr (fun t ht hW => ⟨⟨0, 0, rfl, rfl, (show (0 : Int32) = sp_count p0 by rw [t_238]; decide)⟩, hS.F ht⟩) hS.2.2 dX11_count_124
  · refine lq_top (v := 7) t_238 ?_
    refine lv_tableIn (tgt := 125) hx hb dX11_count_1 (by decide) (by decide) (off := 124) (by decide) (by decide) ?_
    refine lv_aload_n hx hb dX11_count_125 rfl (lv_at hl 0 rfl) ?_
    refine va_get (D := (dC, dI)) (ci := 11) (v := .ref (a 3)) (C := RX11) (T := TX11) (N := 10) hx hb hts (fun _ hh => (List.mem_cons_of_mem _ (List.mem_append_right _ (List.mem_append_left _ hh)))) hown hK hP 0 rfl rfl 2 (by decide) (hts (.fieldLink RX11 28 "TypingPool" "floor" "LTypingPool$Floor;") (List.mem_cons_of_mem _ (List.mem_append_left _ (List.mem_of_getElem? (i := 0) rfl)))) (fun _ h9 => h9) rfl dX11_count_126 ?_
    refine lv_iconst (v := 3) hx hb dX11_count_129 (by decide) ?_
    have hPc := hP.sub (ws' := [((a 3), .inr (3, [.ref (a 1), .ref (a 2), .int 0, .ref (a 20), .ref (a 21), .ref (a 22), .ref (a 23), .ref (a 24), .ref (a 25), .ref (a 26), .ref (a 27), .ref (a 28)])), ((a 1), .inr (1, [.ref (a 9), .int 0, .ref (a 10), .int 0, .ref (a 11), .int 0, .ref (a 12), .int 0]))]) [2, 1] rfl
    have hDc := hD.sub (ws' := [((a 3), .inr (3, [.ref (a 1), .ref (a 2), .int 0, .ref (a 20), .ref (a 21), .ref (a 22), .ref (a 23), .ref (a 24), .ref (a 25), .ref (a 26), .ref (a 27), .ref (a 28)])), ((a 1), .inr (1, [.ref (a 9), .int 0, .ref (a 10), .int 0, .ref (a 11), .int 0, .ref (a 12), .int 0]))]) [2, 1] (by decide) rfl
    have hKc := hK.sub (tys' := []) [] rfl
    have hFc := va_free (wc := [((a 3), .inr (3, [.ref (a 1), .ref (a 2), .int 0, .ref (a 20), .ref (a 21), .ref (a 22), .ref (a 23), .ref (a 24), .ref (a 25), .ref (a 26), .ref (a 27), .ref (a 28)])), ((a 1), .inr (1, [.ref (a 9), .int 0, .ref (a 10), .int 0, .ref (a 11), .int 0, .ref (a 12), .int 0]))]) hD hS hA [2, 1] rfl
    refine va_calli (va_runV (As := [.int 3]) (rest := []) ⟨hx, hb, hml, hown, hts⟩ (c_inState0 l dC dI ad av s.heap.size (a 3) (a 1) (a 2) (a 20) (a 21) (a 22) (a 23) (a 24) (a 25) (a 26) (a 27) (a 28) (a 9) (a 10) (a 11) (a 12) 0 3 ) (cwV 1 hts (gi_4 (List.mem_cons_of_mem _ (List.mem_append_left _ (List.mem_of_getElem? (i := 10) rfl))) (List.mem_cons_of_mem _ (List.mem_append_left _ (List.mem_of_getElem? (i := 11) rfl))) (List.mem_cons_of_mem _ (List.mem_append_left _ (List.mem_of_getElem? (i := 12) rfl))) (List.mem_cons_of_mem _ (List.mem_append_left _ (List.mem_of_getElem? (i := 13) rfl))) (fun _ hh => (List.mem_cons_of_mem _ (List.mem_append_right _ (List.mem_append_right _ (List.mem_append_right _ (List.mem_append_right _ (List.mem_append_right _ (List.mem_append_right _ (List.mem_append_left _ hh))))))))) gd_c_inState0) rfl rfl rfl (by decide +kernel) ⟨Nat.le_of_ble_eq_true rfl, Nat.le_of_ble_eq_true rfl⟩) ⟨pr_blind, va_recv hKc hPc (ci := 3) (q0 := 0) rfl rfl, pr_use hPc hKc hDc hFc hS hM⟩ rfl rfl hl.1 rfl (lv_room (Nat.le_of_ble_eq_true rfl)) dX11_count_130 ⟨Nat.le_of_ble_eq_true rfl, Nat.le_of_ble_eq_true rfl⟩) hS (fun q _ h => hFc q h) hFc (fun r_241 u t H locs ht hvm hw hB hz1 hk1 hS => ?_)
    refine W.widen (k := 0) (n := 0) (Nat.le_of_ble_eq_true rfl) (Nat.le_of_ble_eq_true rfl) ?_
    subst hw
    obtain ⟨hre_242, hP1, hK1, hD1⟩ := hB
    refine lq_top (v := 0) hre_242 ?_
    rw [ht] at hP1
    have hK1 := va_K.moved hvm.symm hK1
    obtain ⟨hP, hD⟩ := va_join (wr := [(h0, .inr (11, [.ref (a 1), .ref (a 2), .ref (a 3), .ref (a 4), .ref (a 5), .ref (a 6), .ref (a 7), .int 0, .ref (a 8), .int 0])), ((a 2), .inr (10, [.ref (a 13), .int 0, .ref (a 14), .ref (a 15), .ref (a 16), .ref (a 17)])), ((a 5), .inr (5, [.ref (a 1), .ref (a 2), .ref (a 3), .ref (a 40), .int 0, .int 99]))]) (w1 := [((a 3), .inr (3, [.ref (a 1), .ref (a 2), .int 0, .ref (a 20), .ref (a 21), .ref (a 22), .ref (a 23), .ref (a 24), .ref (a 25), .ref (a 26), .ref (a 27), .ref (a 28)])), ((a 1), .inr (1, [.ref (a 9), .int 0, .ref (a 10), .int 0, .ref (a 11), .int 0, .ref (a 12), .int 0]))]) hP hD [2, 1] [0, 3, 4] rfl rfl (by decide) (by decide) hk1 hFc hP1 hD1
    have hK := (hK.sub (tys' := []) [] rfl).app hK1
    have hP : va_P (dC, dI) vwCl [(h0, .inr (11, [.ref (a 1), .ref (a 2), .ref (a 3), .ref (a 4), .ref (a 5), .ref (a 6), .ref (a 7), .int 0, .ref (a 8), .int 0])), ((a 2), .inr (10, [.ref (a 13), .int 0, .ref (a 14), .ref (a 15), .ref (a 16), .ref (a 17)])), ((a 5), .inr (5, [.ref (a 1), .ref (a 2), .ref (a 3), .ref (a 40), .int 0, .int 99])), ((a 3), .inr (3, [.ref (a 1), .ref (a 2), .int 0, .ref (a 20), .ref (a 21), .ref (a 22), .ref (a 23), .ref (a 24), .ref (a 25), .ref (a 26), .ref (a 27), .ref (a 28)])), ((a 1), .inr (1, [.ref (a 9), .int 0, .ref (a 10), .int 0, .ref (a 11), .int 0, .ref (a 12), .int 0]))] H := hP
    have hD : va_D A [(h0, .inr (11, [.ref (a 1), .ref (a 2), .ref (a 3), .ref (a 4), .ref (a 5), .ref (a 6), .ref (a 7), .int 0, .ref (a 8), .int 0])), ((a 2), .inr (10, [.ref (a 13), .int 0, .ref (a 14), .ref (a 15), .ref (a 16), .ref (a 17)])), ((a 5), .inr (5, [.ref (a 1), .ref (a 2), .ref (a 3), .ref (a 40), .int 0, .int 99])), ((a 3), .inr (3, [.ref (a 1), .ref (a 2), .int 0, .ref (a 20), .ref (a 21), .ref (a 22), .ref (a 23), .ref (a 24), .ref (a 25), .ref (a 26), .ref (a 27), .ref (a 28)])), ((a 1), .inr (1, [.ref (a 9), .int 0, .ref (a 10), .int 0, .ref (a 11), .int 0, .ref (a 12), .int 0]))] := hD
    have hK : va_K (dC, dI) vwCl [] s := hK
    exact W.iret (v := 0) hx hb hr (fun t ht hW => ⟨⟨0, 0, rfl, rfl, (show (0 : Int32) = sp_count p0 by rw [t_238]; decide)⟩, hS.F ht⟩) hS.2.2 dX11_count_133
  · refine lq_top (v := 8) t_238 ?_
    refine lv_tableIn (tgt := 134) hx hb dX11_count_1 (by decide) (by decide) (off := 133) (by decide) (by decide) ?_
    refine lv_aload_n hx hb dX11_count_134 rfl (lv_at hl 0 rfl) ?_
    refine va_get (D := (dC, dI)) (ci := 11) (v := .ref (a 3)) (C := RX11) (T := TX11) (N := 10) hx hb hts (fun _ hh => (List.mem_cons_of_mem _ (List.mem_append_right _ (List.mem_append_left _ hh)))) hown hK hP 0 rfl rfl 2 (by decide) (hts (.fieldLink RX11 28 "TypingPool" "floor" "LTypingPool$Floor;") (List.mem_cons_of_mem _ (List.mem_append_left _ (List.mem_of_getElem? (i := 0) rfl)))) (fun _ h9 => h9) rfl dX11_count_135 ?_
    have hPc := hP.sub (ws' := [((a 3), .inr (3, [.ref (a 1), .ref (a 2), .int 0, .ref (a 20), .ref (a 21), .ref (a 22), .ref (a 23), .ref (a 24), .ref (a 25), .ref (a 26), .ref (a 27), .ref (a 28)])), ((a 1), .inr (1, [.ref (a 9), .int 0, .ref (a 10), .int 0, .ref (a 11), .int 0, .ref (a 12), .int 0]))]) [2, 1] rfl
    have hDc := hD.sub (ws' := [((a 3), .inr (3, [.ref (a 1), .ref (a 2), .int 0, .ref (a 20), .ref (a 21), .ref (a 22), .ref (a 23), .ref (a 24), .ref (a 25), .ref (a 26), .ref (a 27), .ref (a 28)])), ((a 1), .inr (1, [.ref (a 9), .int 0, .ref (a 10), .int 0, .ref (a 11), .int 0, .ref (a 12), .int 0]))]) [2, 1] (by decide) rfl
    have hKc := hK.sub (tys' := []) [] rfl
    have hFc := va_free (wc := [((a 3), .inr (3, [.ref (a 1), .ref (a 2), .int 0, .ref (a 20), .ref (a 21), .ref (a 22), .ref (a 23), .ref (a 24), .ref (a 25), .ref (a 26), .ref (a 27), .ref (a 28)])), ((a 1), .inr (1, [.ref (a 9), .int 0, .ref (a 10), .int 0, .ref (a 11), .int 0, .ref (a 12), .int 0]))]) hD hS hA [2, 1] rfl
    refine va_calli (va_runV (As := []) (rest := []) ⟨hx, hb, hml, hown, hts⟩ (c_lateOnes0 l dC dI ad av s.heap.size (a 3) (a 1) (a 2) (a 20) (a 21) (a 22) (a 23) (a 24) (a 25) (a 26) (a 27) (a 28) (a 9) (a 10) (a 11) (a 12) 0 ) (cwV 0 hts (gi_4 (List.mem_cons_of_mem _ (List.mem_append_left _ (List.mem_of_getElem? (i := 14) rfl))) (List.mem_cons_of_mem _ (List.mem_append_left _ (List.mem_of_getElem? (i := 15) rfl))) (List.mem_cons_of_mem _ (List.mem_append_left _ (List.mem_of_getElem? (i := 16) rfl))) (List.mem_cons_of_mem _ (List.mem_append_left _ (List.mem_of_getElem? (i := 13) rfl))) (fun _ hh => (List.mem_cons_of_mem _ (List.mem_append_right _ (List.mem_append_right _ (List.mem_append_right _ (List.mem_append_right _ (List.mem_append_right _ (List.mem_append_right _ (List.mem_append_right _ (List.mem_append_left _ hh)))))))))) gd_c_lateOnes0) rfl rfl rfl (by decide +kernel) ⟨Nat.le_of_ble_eq_true rfl, Nat.le_of_ble_eq_true rfl⟩) ⟨pr_blind, va_recv hKc hPc (ci := 3) (q0 := 0) rfl rfl, pr_use hPc hKc hDc hFc hS hM⟩ rfl rfl hl.1 rfl (lv_room (Nat.le_of_ble_eq_true rfl)) dX11_count_138 ⟨Nat.le_of_ble_eq_true rfl, Nat.le_of_ble_eq_true rfl⟩) hS (fun q _ h => hFc q h) hFc (fun r_243 u t H locs ht hvm hw hB hz1 hk1 hS => ?_)
    refine W.widen (k := 0) (n := 0) (Nat.le_of_ble_eq_true rfl) (Nat.le_of_ble_eq_true rfl) ?_
    subst hw
    obtain ⟨hre_244, hP1, hK1, hD1⟩ := hB
    refine lq_top (v := 0) hre_244 ?_
    rw [ht] at hP1
    have hK1 := va_K.moved hvm.symm hK1
    obtain ⟨hP, hD⟩ := va_join (wr := [(h0, .inr (11, [.ref (a 1), .ref (a 2), .ref (a 3), .ref (a 4), .ref (a 5), .ref (a 6), .ref (a 7), .int 0, .ref (a 8), .int 0])), ((a 2), .inr (10, [.ref (a 13), .int 0, .ref (a 14), .ref (a 15), .ref (a 16), .ref (a 17)])), ((a 5), .inr (5, [.ref (a 1), .ref (a 2), .ref (a 3), .ref (a 40), .int 0, .int 99]))]) (w1 := [((a 3), .inr (3, [.ref (a 1), .ref (a 2), .int 0, .ref (a 20), .ref (a 21), .ref (a 22), .ref (a 23), .ref (a 24), .ref (a 25), .ref (a 26), .ref (a 27), .ref (a 28)])), ((a 1), .inr (1, [.ref (a 9), .int 0, .ref (a 10), .int 0, .ref (a 11), .int 0, .ref (a 12), .int 0]))]) hP hD [2, 1] [0, 3, 4] rfl rfl (by decide) (by decide) hk1 hFc hP1 hD1
    have hK := (hK.sub (tys' := []) [] rfl).app hK1
    have hP : va_P (dC, dI) vwCl [(h0, .inr (11, [.ref (a 1), .ref (a 2), .ref (a 3), .ref (a 4), .ref (a 5), .ref (a 6), .ref (a 7), .int 0, .ref (a 8), .int 0])), ((a 2), .inr (10, [.ref (a 13), .int 0, .ref (a 14), .ref (a 15), .ref (a 16), .ref (a 17)])), ((a 5), .inr (5, [.ref (a 1), .ref (a 2), .ref (a 3), .ref (a 40), .int 0, .int 99])), ((a 3), .inr (3, [.ref (a 1), .ref (a 2), .int 0, .ref (a 20), .ref (a 21), .ref (a 22), .ref (a 23), .ref (a 24), .ref (a 25), .ref (a 26), .ref (a 27), .ref (a 28)])), ((a 1), .inr (1, [.ref (a 9), .int 0, .ref (a 10), .int 0, .ref (a 11), .int 0, .ref (a 12), .int 0]))] H := hP
    have hD : va_D A [(h0, .inr (11, [.ref (a 1), .ref (a 2), .ref (a 3), .ref (a 4), .ref (a 5), .ref (a 6), .ref (a 7), .int 0, .ref (a 8), .int 0])), ((a 2), .inr (10, [.ref (a 13), .int 0, .ref (a 14), .ref (a 15), .ref (a 16), .ref (a 17)])), ((a 5), .inr (5, [.ref (a 1), .ref (a 2), .ref (a 3), .ref (a 40), .int 0, .int 99])), ((a 3), .inr (3, [.ref (a 1), .ref (a 2), .int 0, .ref (a 20), .ref (a 21), .ref (a 22), .ref (a 23), .ref (a 24), .ref (a 25), .ref (a 26), .ref (a 27), .ref (a 28)])), ((a 1), .inr (1, [.ref (a 9), .int 0, .ref (a 10), .int 0, .ref (a 11), .int 0, .ref (a 12), .int 0]))] := hD
    have hK : va_K (dC, dI) vwCl [] s := hK
    exact W.iret (v := 0) hx hb hr (fun t ht hW => ⟨⟨0, 0, rfl, rfl, (show (0 : Int32) = sp_count p0 by rw [t_238]; decide)⟩, hS.F ht⟩) hS.2.2 dX11_count_141
  · refine lq_top (v := 9) t_238 ?_
    refine lv_tableIn (tgt := 142) hx hb dX11_count_1 (by decide) (by decide) (off := 141) (by decide) (by decide) ?_
    refine lv_aload_n hx hb dX11_count_142 rfl (lv_at hl 0 rfl) ?_
    refine va_get (D := (dC, dI)) (ci := 11) (v := .ref (a 5)) (C := RX11) (T := TX11) (N := 10) hx hb hts (fun _ hh => (List.mem_cons_of_mem _ (List.mem_append_right _ (List.mem_append_left _ hh)))) hown hK hP 0 rfl rfl 4 (by decide) (hts (.fieldLink RX11 40 "TypingPool" "ledger" "LTypingPool$Ledger;") (List.mem_cons_of_mem _ (List.mem_append_left _ (List.mem_of_getElem? (i := 7) rfl)))) (fun _ h9 => h9) rfl dX11_count_143 ?_
    refine va_get (D := (dC, dI)) (ci := 5) (v := .int 99) (C := RX5) (T := TX5) (N := 6) hx hb hts (fun _ hh => (List.mem_cons_of_mem _ (List.mem_append_right _ (List.mem_append_right _ (List.mem_append_right _ (List.mem_append_right _ (List.mem_append_right _ (List.mem_append_left _ hh)))))))) hown hK hP 4 rfl rfl 5 (by decide) (hts (.fieldLink RX11 245 "TypingPool$Ledger" "as" "I") (List.mem_cons_of_mem _ (List.mem_append_left _ (List.mem_of_getElem? (i := 17) rfl)))) (fun _ h9 => h9) rfl dX11_count_146 ?_
    exact W.iret (v := 99) hx hb hr (fun t ht hW => ⟨⟨99, 99, rfl, rfl, (show (99 : Int32) = sp_count p0 by rw [t_238]; decide)⟩, hS.F ht⟩) hS.2.2 dX11_count_149
  · refine lq_top (v := 10) t_238 ?_
    refine lv_tableIn (tgt := 150) hx hb dX11_count_1 (by decide) (by decide) (off := 149) (by decide) (by decide) ?_
    refine lv_aload_n hx hb dX11_count_150 rfl (lv_at hl 0 rfl) ?_
    refine va_get (D := (dC, dI)) (ci := 11) (v := .int 0) (C := RX11) (T := TX11) (N := 10) hx hb hts (fun _ hh => (List.mem_cons_of_mem _ (List.mem_append_right _ (List.mem_append_left _ hh)))) hown hK hP 0 rfl rfl 9 (by decide) (hts (.fieldLink RX11 65 "TypingPool" "rowLength" "I") (List.mem_cons_of_mem _ (List.mem_append_left _ (List.mem_of_getElem? (i := 18) rfl)))) (fun _ h9 => h9) rfl dX11_count_151 ?_
    exact W.iret (v := 0) hx hb hr (fun t ht hW => ⟨⟨0, 0, rfl, rfl, (show (0 : Int32) = sp_count p0 by rw [t_238]; decide)⟩, hS.F ht⟩) hS.2.2 dX11_count_154
  · refine lq_top (v := 11) t_238 ?_
    refine lv_tableIn (tgt := 155) hx hb dX11_count_1 (by decide) (by decide) (off := 154) (by decide) (by decide) ?_
    refine lv_aload_n hx hb dX11_count_155 rfl (lv_at hl 0 rfl) ?_
    refine va_get (D := (dC, dI)) (ci := 11) (v := .int 0) (C := RX11) (T := TX11) (N := 10) hx hb hts (fun _ hh => (List.mem_cons_of_mem _ (List.mem_append_right _ (List.mem_append_left _ hh)))) hown hK hP 0 rfl rfl 7 (by decide) (hts (.fieldLink RX11 57 "TypingPool" "textLength" "I") (List.mem_cons_of_mem _ (List.mem_append_left _ (List.mem_of_getElem? (i := 19) rfl)))) (fun _ h9 => h9) rfl dX11_count_156 ?_
    exact W.iret (v := 0) hx hb hr (fun t ht hW => ⟨⟨0, 0, rfl, rfl, (show (0 : Int32) = sp_count p0 by rw [t_238]; decide)⟩, hS.F ht⟩) hS.2.2 dX11_count_159
  · refine lq_top (v := 12) t_238 ?_
    refine lv_tableIn (tgt := 160) hx hb dX11_count_1 (by decide) (by decide) (off := 159) (by decide) (by decide) ?_
    refine lv_aload_n hx hb dX11_count_160 rfl (lv_at hl 0 rfl) ?_
    refine va_get (D := (dC, dI)) (ci := 11) (v := .ref (a 1)) (C := RX11) (T := TX11) (N := 10) hx hb hts (fun _ hh => (List.mem_cons_of_mem _ (List.mem_append_right _ (List.mem_append_left _ hh)))) hown hK hP 0 rfl rfl 0 (by decide) (hts (.fieldLink RX11 10 "TypingPool" "book" "LTypingPool$Book;") (List.mem_cons_of_mem _ (List.mem_append_left _ (List.mem_of_getElem? (i := 2) rfl)))) (fun _ h9 => h9) rfl dX11_count_161 ?_
    refine va_get (D := (dC, dI)) (ci := 1) (v := .int 0) (C := RX1) (T := TX1) (N := 8) hx hb hts (fun _ hh => (List.mem_cons_of_mem _ (List.mem_append_right _ (List.mem_append_right _ (List.mem_append_right _ (List.mem_append_left _ hh)))))) hown hK hP 1 rfl rfl 1 (by decide) (hts (.fieldLink RX11 72 "TypingPool$Book" "postCount" "I") (List.mem_cons_of_mem _ (List.mem_append_left _ (List.mem_of_getElem? (i := 20) rfl)))) (fun _ h9 => h9) rfl dX11_count_164 ?_
    exact W.iret (v := 0) hx hb hr (fun t ht hW => ⟨⟨0, 0, rfl, rfl, (show (0 : Int32) = sp_count p0 by rw [t_238]; decide)⟩, hS.F ht⟩) hS.2.2 dX11_count_167
  · refine lv_tableOut (tgt := 168) hx hb dX11_count_1 t_238 (by decide) ?_
    refine lv_iconst (v := (-1)) hx hb dX11_count_168 (by decide) ?_
    exact W.iret (v := (-1)) hx hb hr (fun t ht hW => ⟨⟨(-1), (-1), rfl, rfl, (show (-1 : Int32) = sp_count p0 from ((if_neg (fun z => by rw [z] at t_238; revert t_238; decide)).trans (if_neg (by omega))).symm)⟩, hS.F ht⟩) hS.2.2 dX11_count_169
def wo_c_claims : List Cond := [.methodLink RX11 68 yX11_within, .static yX11_within, .initialized RX11, .fieldLink RX11 10 "TypingPool" "book" "LTypingPool$Book;", .fieldLink RX11 112 "TypingPool$Book" "pieceCount" "I", .fieldLink RX11 28 "TypingPool" "floor" "LTypingPool$Floor;", .methodLink RX11 300 yX3_waitedIn, .instanceMethod yX3_waitedIn, .selects RX3 yX3_waitedIn yX3_waitedIn, .initialized RX3]
def wm_c_claims : List Cond := .code yX11_claims cX11_claims 5 (some .int) :: (wo_c_claims ++ (wm_c_within ++ (wsX110 ++ (wsX10 ++ (wm_c_waitedIn0 ++ ([] : List Cond))))))
theorem gd_c_claims : ∀ w ∈ wm_c_claims, goodWord w = true := gd_c rfl (gd_a (by decide) (gd_a gd_c_within (gd_a gd_wsX110 (gd_a gd_wsX10 (gd_a gd_c_waitedIn0 gd_nil)))))
set_option maxRecDepth 20000 in
theorem im_c_claims : ∀ w ∈ wm_c_claims, w ∈ lw_tbl := im_c (in_r [.code yX11_claims cX11_claims 5 (some .int)] [1006] (by decide +kernel)) (in_app (in_r wo_c_claims [594, 595, 70, 559, 133, 561, 1007, 1008, 1009, 83] (by decide +kernel)) (in_app im_c_within (in_app im_wsX110 (in_app im_wsX10 (in_app im_c_waitedIn0 im_nil)))))
set_option maxHeartbeats 4000000 in
set_option maxRecDepth 100000 in
theorem c_claims (l : Launch) (dC : Nat → ClassId) (dI : Nat → Nat → Nat) (ad av : Nat → Nat) (sz : Nat) (h0 : Nat) (a : Nat → Nat) (k : Nat → ClassId) (p0 : Int32) (p1 : Int32) : Met l yX11_claims wm_c_claims ({ frames := 4, cells := 0, slots := 0, locals := 200 }) (pr_ ad av (dC, dI) sz [.ref h0, .int p0, .int p1] [(h0, .inr (11, [.ref (a 1), .ref (a 2), .ref (a 3), .ref (a 4), .ref (a 5), .ref (a 6), .ref (a 7), .int 0, .ref (a 8), .int 0])), ((a 3), .inr (3, [.ref (a 1), .ref (a 2), .int 0, .ref (a 20), .ref (a 21), .ref (a 22), .ref (a 23), .ref (a 24), .ref (a 25), .ref (a 26), .ref (a 27), .ref (a 28)])), ((a 1), .inr (1, [.ref (a 9), .int 0, .ref (a 10), .int 0, .ref (a 11), .int 0, .ref (a 12), .int 0]))] []) (va_Qi (fun (r u : Int32) => u = r) (fun (r : Int32) (t : State) => (r = sp_claims p0 p1)) (va_A [(h0, .inr (11, [.ref (a 1), .ref (a 2), .ref (a 3), .ref (a 4), .ref (a 5), .ref (a 6), .ref (a 7), .int 0, .ref (a 8), .int 0])), ((a 3), .inr (3, [.ref (a 1), .ref (a 2), .int 0, .ref (a 20), .ref (a 21), .ref (a 22), .ref (a 23), .ref (a 24), .ref (a 25), .ref (a 26), .ref (a 27), .ref (a 28)])), ((a 1), .inr (1, [.ref (a 9), .int 0, .ref (a 10), .int 0, .ref (a 11), .int 0, .ref (a 12), .int 0]))] sz)) 0 0 (va_A [(h0, .inr (11, [.ref (a 1), .ref (a 2), .ref (a 3), .ref (a 4), .ref (a 5), .ref (a 6), .ref (a 7), .int 0, .ref (a 8), .int 0])), ((a 3), .inr (3, [.ref (a 1), .ref (a 2), .int 0, .ref (a 20), .ref (a 21), .ref (a 22), .ref (a 23), .ref (a 24), .ref (a 25), .ref (a 26), .ref (a 27), .ref (a 28)])), ((a 1), .inr (1, [.ref (a 9), .int 0, .ref (a 10), .int 0, .ref (a 11), .int 0, .ref (a 12), .int 0]))] sz) := by
  refine Met.ofW (cc := cX11_claims) (maxL := 5) (ret := (some .int)) (by decide) rfl ?_
  intro p e s m args below meth c s₁ B hml hv
  obtain ⟨rfl, hsz, hP, hK, hD0, hM⟩ := hv
  have hx := B.exec
  have hb := B.bytes
  have hr := B.returns
  have hts := atoms_spec (ws := wm_c_claims) B.pre
  have hown : s.vm.findClass RX11 = some m.cls := findClass_of_methodNamed B.named
  have hlocks := B.notSynchronized
  subst hsz
  have hD := hD0.self (sz := s.heap.size)
  generalize hAe : va_A [(h0, .inr (11, [.ref (a 1), .ref (a 2), .ref (a 3), .ref (a 4), .ref (a 5), .ref (a 6), .ref (a 7), .int 0, .ref (a 8), .int 0])), ((a 3), .inr (3, [.ref (a 1), .ref (a 2), .int 0, .ref (a 20), .ref (a 21), .ref (a 22), .ref (a 23), .ref (a 24), .ref (a 25), .ref (a 26), .ref (a 27), .ref (a 28)])), ((a 1), .inr (1, [.ref (a 9), .int 0, .ref (a 10), .int 0, .ref (a 11), .int 0, .ref (a 12), .int 0]))] s.heap.size = A at hD hM ⊢
  have hA : ∀ q : Nat, s.heap.size ≤ q → A q := fun q h => by rw [← hAe]; exact Or.inr h
  have hS : va_S A s.heap s.heap [] := va_S.rf
  have hP : va_P (dC, dI) vwCl [(h0, .inr (11, [.ref (a 1), .ref (a 2), .ref (a 3), .ref (a 4), .ref (a 5), .ref (a 6), .ref (a 7), .int 0, .ref (a 8), .int 0])), ((a 3), .inr (3, [.ref (a 1), .ref (a 2), .int 0, .ref (a 20), .ref (a 21), .ref (a 22), .ref (a 23), .ref (a 24), .ref (a 25), .ref (a 26), .ref (a 27), .ref (a 28)])), ((a 1), .inr (1, [.ref (a 9), .int 0, .ref (a 10), .int 0, .ref (a 11), .int 0, .ref (a 12), .int 0]))] s.heap := hP
  have hl := lv_entry ([.ref h0, .int p0, .int p1]) (n := 5) (Nat.le_of_ble_eq_true rfl)
  rw [lg_entry_eq]
  generalize (lg_sl ([.ref h0, .int p0, .int p1]) ++ List.replicate (5 - (lg_sl ([.ref h0, .int p0, .int p1])).length) Slot.unset).toArray = ls at hl ⊢
  have hl : lv_has ls 5 [(0, .ref h0), (1, .int p0), (2, .int p1)] := hl
  refine lv_iload_n hx hb dX11_claims_0 rfl (lv_at hl 1 rfl) ?_
  refine lv_iconst (v := 0) hx hb dX11_claims_1 (by decide) ?_
  refine lv_bipush (v := 7) hx hb dX11_claims_2 (by decide) ?_
  have hPc := hP.sub (ws' := []) [] rfl
  have hDc := hD.sub (ws' := []) [] (by decide) rfl
  have hKc := hK.sub (tys' := []) [] rfl
  have hFc := va_free (wc := []) hD hS hA [] rfl
  refine va_calli (va_runS (As := [.int p0, .int 0, .int 7]) (rest := []) ⟨hx, hb, hml, hown, hts⟩ (c_within l dC dI ad av s.heap.size p0 0 7 ) (va_cwS 3 hts (gi_3 (List.mem_cons_of_mem _ (List.mem_append_left _ (List.mem_of_getElem? (i := 0) rfl))) (List.mem_cons_of_mem _ (List.mem_append_left _ (List.mem_of_getElem? (i := 1) rfl))) (List.mem_cons_of_mem _ (List.mem_append_left _ (List.mem_of_getElem? (i := 2) rfl))) (fun _ hh => (List.mem_cons_of_mem _ (List.mem_append_right _ (List.mem_append_left _ hh)))) gd_c_within) rfl rfl rfl (by decide +kernel) ⟨Nat.le_of_ble_eq_true rfl, Nat.le_of_ble_eq_true rfl⟩) ⟨pr_blind, pr_use hPc hKc hDc hFc hS hM⟩ rfl rfl hl.1 rfl (lv_room (Nat.le_of_ble_eq_true rfl)) dX11_claims_4 ⟨Nat.le_of_ble_eq_true rfl, Nat.le_of_ble_eq_true rfl⟩) hS (fun q _ h => hFc q h) hFc (fun r_245 u t H locs ht hvm hw hB hz1 hk1 hS => ?_)
  refine W.widen (k := 0) (n := 0) (Nat.le_of_ble_eq_true rfl) (Nat.le_of_ble_eq_true rfl) ?_
  subst hw
  rcases hB with ⟨hre_246, hf_247, hf_248, hP1, hK1, hD1⟩ | ⟨hre_249, hf_250, hP1, hK1, hD1⟩
  · refine lq_top (v := 1) hre_246 ?_
    rw [ht] at hP1
    have hK1 := va_K.moved hvm.symm hK1
    obtain ⟨hP, hD⟩ := va_join (wr := [(h0, .inr (11, [.ref (a 1), .ref (a 2), .ref (a 3), .ref (a 4), .ref (a 5), .ref (a 6), .ref (a 7), .int 0, .ref (a 8), .int 0])), ((a 3), .inr (3, [.ref (a 1), .ref (a 2), .int 0, .ref (a 20), .ref (a 21), .ref (a 22), .ref (a 23), .ref (a 24), .ref (a 25), .ref (a 26), .ref (a 27), .ref (a 28)])), ((a 1), .inr (1, [.ref (a 9), .int 0, .ref (a 10), .int 0, .ref (a 11), .int 0, .ref (a 12), .int 0]))]) (w1 := []) hP hD [] [0, 1, 2] rfl rfl (by decide) (by decide) hk1 hFc hP1 hD1
    have hK := (hK.sub (tys' := []) [] rfl).app hK1
    have hP : va_P (dC, dI) vwCl [(h0, .inr (11, [.ref (a 1), .ref (a 2), .ref (a 3), .ref (a 4), .ref (a 5), .ref (a 6), .ref (a 7), .int 0, .ref (a 8), .int 0])), ((a 3), .inr (3, [.ref (a 1), .ref (a 2), .int 0, .ref (a 20), .ref (a 21), .ref (a 22), .ref (a 23), .ref (a 24), .ref (a 25), .ref (a 26), .ref (a 27), .ref (a 28)])), ((a 1), .inr (1, [.ref (a 9), .int 0, .ref (a 10), .int 0, .ref (a 11), .int 0, .ref (a 12), .int 0]))] H := hP
    have hD : va_D A [(h0, .inr (11, [.ref (a 1), .ref (a 2), .ref (a 3), .ref (a 4), .ref (a 5), .ref (a 6), .ref (a 7), .int 0, .ref (a 8), .int 0])), ((a 3), .inr (3, [.ref (a 1), .ref (a 2), .int 0, .ref (a 20), .ref (a 21), .ref (a 22), .ref (a 23), .ref (a 24), .ref (a 25), .ref (a 26), .ref (a 27), .ref (a 28)])), ((a 1), .inr (1, [.ref (a 9), .int 0, .ref (a 10), .int 0, .ref (a 11), .int 0, .ref (a 12), .int 0]))] := hD
    have hK : va_K (dC, dI) vwCl [] s := hK
    refine lv_if_eq (tgt := 19) hx hb dX11_claims_7 (by decide) (fun c_251 => absurd c_251 (by decide)) (fun c_251 => ?_)
    refine lv_iload_n hx hb dX11_claims_10 rfl (lv_at hl 2 rfl) ?_
    refine lv_iconst (v := 0) hx hb dX11_claims_11 (by decide) ?_
    refine lv_iconst (v := 4) hx hb dX11_claims_12 (by decide) ?_
    have hPc := hP.sub (ws' := []) [] rfl
    have hDc := hD.sub (ws' := []) [] (by decide) rfl
    have hKc := hK.sub (tys' := []) [] rfl
    have hFc := va_free (wc := []) hD hS hA [] rfl
    refine va_calli (va_runS (As := [.int p1, .int 0, .int 4]) (rest := []) ⟨hx, hb, hml, hown, hts⟩ (c_within l dC dI ad av H.size p1 0 4 ) (va_cwS 3 hts (gi_3 (List.mem_cons_of_mem _ (List.mem_append_left _ (List.mem_of_getElem? (i := 0) rfl))) (List.mem_cons_of_mem _ (List.mem_append_left _ (List.mem_of_getElem? (i := 1) rfl))) (List.mem_cons_of_mem _ (List.mem_append_left _ (List.mem_of_getElem? (i := 2) rfl))) (fun _ hh => (List.mem_cons_of_mem _ (List.mem_append_right _ (List.mem_append_left _ hh)))) gd_c_within) rfl rfl rfl (by decide +kernel) ⟨Nat.le_of_ble_eq_true rfl, Nat.le_of_ble_eq_true rfl⟩) ⟨pr_blind, pr_use hPc hKc hDc hFc hS hM⟩ rfl rfl hl.1 rfl (lv_room (Nat.le_of_ble_eq_true rfl)) dX11_claims_13 ⟨Nat.le_of_ble_eq_true rfl, Nat.le_of_ble_eq_true rfl⟩) hS (fun q _ h => hFc q h) hFc (fun r_252 u t H locs ht hvm hw hB hz1 hk1 hS => ?_)
    refine W.widen (k := 0) (n := 0) (Nat.le_of_ble_eq_true rfl) (Nat.le_of_ble_eq_true rfl) ?_
    subst hw
    rcases hB with ⟨hre_253, hf_254, hf_255, hP1, hK1, hD1⟩ | ⟨hre_256, hf_257, hP1, hK1, hD1⟩
    · refine lq_top (v := 1) hre_253 ?_
      rw [ht] at hP1
      have hK1 := va_K.moved hvm.symm hK1
      obtain ⟨hP, hD⟩ := va_join (wr := [(h0, .inr (11, [.ref (a 1), .ref (a 2), .ref (a 3), .ref (a 4), .ref (a 5), .ref (a 6), .ref (a 7), .int 0, .ref (a 8), .int 0])), ((a 3), .inr (3, [.ref (a 1), .ref (a 2), .int 0, .ref (a 20), .ref (a 21), .ref (a 22), .ref (a 23), .ref (a 24), .ref (a 25), .ref (a 26), .ref (a 27), .ref (a 28)])), ((a 1), .inr (1, [.ref (a 9), .int 0, .ref (a 10), .int 0, .ref (a 11), .int 0, .ref (a 12), .int 0]))]) (w1 := []) hP hD [] [0, 1, 2] rfl rfl (by decide) (by decide) hk1 hFc hP1 hD1
      have hK := (hK.sub (tys' := []) [] rfl).app hK1
      have hP : va_P (dC, dI) vwCl [(h0, .inr (11, [.ref (a 1), .ref (a 2), .ref (a 3), .ref (a 4), .ref (a 5), .ref (a 6), .ref (a 7), .int 0, .ref (a 8), .int 0])), ((a 3), .inr (3, [.ref (a 1), .ref (a 2), .int 0, .ref (a 20), .ref (a 21), .ref (a 22), .ref (a 23), .ref (a 24), .ref (a 25), .ref (a 26), .ref (a 27), .ref (a 28)])), ((a 1), .inr (1, [.ref (a 9), .int 0, .ref (a 10), .int 0, .ref (a 11), .int 0, .ref (a 12), .int 0]))] H := hP
      have hD : va_D A [(h0, .inr (11, [.ref (a 1), .ref (a 2), .ref (a 3), .ref (a 4), .ref (a 5), .ref (a 6), .ref (a 7), .int 0, .ref (a 8), .int 0])), ((a 3), .inr (3, [.ref (a 1), .ref (a 2), .int 0, .ref (a 20), .ref (a 21), .ref (a 22), .ref (a 23), .ref (a 24), .ref (a 25), .ref (a 26), .ref (a 27), .ref (a 28)])), ((a 1), .inr (1, [.ref (a 9), .int 0, .ref (a 10), .int 0, .ref (a 11), .int 0, .ref (a 12), .int 0]))] := hD
      have hK : va_K (dC, dI) vwCl [] s := hK
      refine lv_if_ne (tgt := 21) hx hb dX11_claims_16 (by decide) (fun c_258 => ?_) (fun c_258 => absurd c_258 (by decide))
      refine lv_iload_n hx hb dX11_claims_21 rfl (lv_at hl 2 rfl) ?_
      refine lv_if_ne (tgt := 34) hx hb dX11_claims_22 (by decide) (fun c_259 => ?_) (fun c_259 => ?_)
      · refine lv_iconst (v := 0) hx hb dX11_claims_34 (by decide) ?_
        refine lv_istore_n (lv' := [(3, .int 0), (0, .ref h0), (1, .int p0), (2, .int p1)]) hx hb dX11_claims_35 rfl hl (by decide) rfl (fun ls hl => ?_)
        refine lv_iconst (v := 0) hx hb dX11_claims_36 (by decide) ?_
        refine lv_istore (lv' := [(4, .int 0), (3, .int 0), (0, .ref h0), (1, .int p0), (2, .int p1)]) hx hb dX11_claims_37 hl (by decide) rfl (fun ls hl => ?_)
        refine lv_iload hx hb dX11_claims_39 (lv_at hl 0 rfl) ?_
        refine lv_aload_n hx hb dX11_claims_41 rfl (lv_at hl 2 rfl) ?_
        refine va_get (D := (dC, dI)) (ci := 11) (v := .ref (a 1)) (C := RX11) (T := TX11) (N := 10) hx hb hts (fun _ hh => (List.mem_cons_of_mem _ (List.mem_append_right _ (List.mem_append_right _ (List.mem_append_left _ hh))))) hown hK hP 0 rfl rfl 0 (by decide) (hts (.fieldLink RX11 10 "TypingPool" "book" "LTypingPool$Book;") (List.mem_cons_of_mem _ (List.mem_append_left _ (List.mem_of_getElem? (i := 3) rfl)))) (fun _ h9 => h9) rfl dX11_claims_42 ?_
        refine va_get (D := (dC, dI)) (ci := 1) (v := .int 0) (C := RX1) (T := TX1) (N := 8) hx hb hts (fun _ hh => (List.mem_cons_of_mem _ (List.mem_append_right _ (List.mem_append_right _ (List.mem_append_right _ (List.mem_append_left _ hh)))))) hown hK hP 2 rfl rfl 5 (by decide) (hts (.fieldLink RX11 112 "TypingPool$Book" "pieceCount" "I") (List.mem_cons_of_mem _ (List.mem_append_left _ (List.mem_of_getElem? (i := 4) rfl)))) (fun _ h9 => h9) rfl dX11_claims_45 ?_
        refine lv_icmp_ge (tgt := 87) hx hb dX11_claims_48 (by decide) (fun c_260 => ?_) (fun c_260 => absurd c_260 (fun z => z (by decide)))
        refine lv_iload_n hx hb dX11_claims_87 rfl (lv_at hl 1 rfl) ?_
        exact W.iret (v := 0) hx hb hr (fun t ht hW => ⟨⟨0, 0, rfl, rfl, (if_pos ⟨⟨hf_247, hf_248⟩, ⟨hf_254, hf_255⟩⟩).symm⟩, hS.F ht⟩) hS.2.2 dX11_claims_88
      · refine lv_aload_n hx hb dX11_claims_25 rfl (lv_at hl 0 rfl) ?_
        refine va_get (D := (dC, dI)) (ci := 11) (v := .ref (a 3)) (C := RX11) (T := TX11) (N := 10) hx hb hts (fun _ hh => (List.mem_cons_of_mem _ (List.mem_append_right _ (List.mem_append_right _ (List.mem_append_left _ hh))))) hown hK hP 0 rfl rfl 2 (by decide) (hts (.fieldLink RX11 28 "TypingPool" "floor" "LTypingPool$Floor;") (List.mem_cons_of_mem _ (List.mem_append_left _ (List.mem_of_getElem? (i := 5) rfl)))) (fun _ h9 => h9) rfl dX11_claims_26 ?_
        refine lv_iload_n hx hb dX11_claims_29 rfl (lv_at hl 1 rfl) ?_
        have hPc := hP.sub (ws' := [((a 3), .inr (3, [.ref (a 1), .ref (a 2), .int 0, .ref (a 20), .ref (a 21), .ref (a 22), .ref (a 23), .ref (a 24), .ref (a 25), .ref (a 26), .ref (a 27), .ref (a 28)])), ((a 1), .inr (1, [.ref (a 9), .int 0, .ref (a 10), .int 0, .ref (a 11), .int 0, .ref (a 12), .int 0]))]) [1, 2] rfl
        have hDc := hD.sub (ws' := [((a 3), .inr (3, [.ref (a 1), .ref (a 2), .int 0, .ref (a 20), .ref (a 21), .ref (a 22), .ref (a 23), .ref (a 24), .ref (a 25), .ref (a 26), .ref (a 27), .ref (a 28)])), ((a 1), .inr (1, [.ref (a 9), .int 0, .ref (a 10), .int 0, .ref (a 11), .int 0, .ref (a 12), .int 0]))]) [1, 2] (by decide) rfl
        have hKc := hK.sub (tys' := []) [] rfl
        have hFc := va_free (wc := [((a 3), .inr (3, [.ref (a 1), .ref (a 2), .int 0, .ref (a 20), .ref (a 21), .ref (a 22), .ref (a 23), .ref (a 24), .ref (a 25), .ref (a 26), .ref (a 27), .ref (a 28)])), ((a 1), .inr (1, [.ref (a 9), .int 0, .ref (a 10), .int 0, .ref (a 11), .int 0, .ref (a 12), .int 0]))]) hD hS hA [1, 2] rfl
        refine va_calli (va_runV (As := [.int p0]) (rest := []) ⟨hx, hb, hml, hown, hts⟩ (c_waitedIn0 l dC dI ad av H.size (a 3) (a 1) (a 2) (a 20) (a 21) (a 22) (a 23) (a 24) (a 25) (a 26) (a 27) (a 28) (a 9) (a 10) (a 11) (a 12) 0 p0 ) (cwV 1 hts (gi_4 (List.mem_cons_of_mem _ (List.mem_append_left _ (List.mem_of_getElem? (i := 6) rfl))) (List.mem_cons_of_mem _ (List.mem_append_left _ (List.mem_of_getElem? (i := 7) rfl))) (List.mem_cons_of_mem _ (List.mem_append_left _ (List.mem_of_getElem? (i := 8) rfl))) (List.mem_cons_of_mem _ (List.mem_append_left _ (List.mem_of_getElem? (i := 9) rfl))) (fun _ hh => (List.mem_cons_of_mem _ (List.mem_append_right _ (List.mem_append_right _ (List.mem_append_right _ (List.mem_append_right _ (List.mem_append_left _ hh))))))) gd_c_waitedIn0) rfl rfl rfl (by decide +kernel) ⟨Nat.le_of_ble_eq_true rfl, Nat.le_of_ble_eq_true rfl⟩) ⟨pr_blind, va_recv hKc hPc (ci := 3) (q0 := 0) rfl rfl, pr_use hPc hKc hDc hFc hS hM⟩ rfl rfl hl.1 rfl (lv_room (Nat.le_of_ble_eq_true rfl)) dX11_claims_30 ⟨Nat.le_of_ble_eq_true rfl, Nat.le_of_ble_eq_true rfl⟩) hS (fun q _ h => hFc q h) hFc (fun r_261 u t H locs ht hvm hw hB hz1 hk1 hS => ?_)
        refine W.widen (k := 0) (n := 0) (Nat.le_of_ble_eq_true rfl) (Nat.le_of_ble_eq_true rfl) ?_
        subst hw
        obtain ⟨hre_262, hP1, hK1, hD1⟩ := hB
        refine lq_top (v := 0) hre_262 ?_
        rw [ht] at hP1
        have hK1 := va_K.moved hvm.symm hK1
        obtain ⟨hP, hD⟩ := va_join (wr := [(h0, .inr (11, [.ref (a 1), .ref (a 2), .ref (a 3), .ref (a 4), .ref (a 5), .ref (a 6), .ref (a 7), .int 0, .ref (a 8), .int 0]))]) (w1 := [((a 3), .inr (3, [.ref (a 1), .ref (a 2), .int 0, .ref (a 20), .ref (a 21), .ref (a 22), .ref (a 23), .ref (a 24), .ref (a 25), .ref (a 26), .ref (a 27), .ref (a 28)])), ((a 1), .inr (1, [.ref (a 9), .int 0, .ref (a 10), .int 0, .ref (a 11), .int 0, .ref (a 12), .int 0]))]) hP hD [1, 2] [0] rfl rfl (by decide) (by decide) hk1 hFc hP1 hD1
        have hK := (hK.sub (tys' := []) [] rfl).app hK1
        have hP : va_P (dC, dI) vwCl [(h0, .inr (11, [.ref (a 1), .ref (a 2), .ref (a 3), .ref (a 4), .ref (a 5), .ref (a 6), .ref (a 7), .int 0, .ref (a 8), .int 0])), ((a 3), .inr (3, [.ref (a 1), .ref (a 2), .int 0, .ref (a 20), .ref (a 21), .ref (a 22), .ref (a 23), .ref (a 24), .ref (a 25), .ref (a 26), .ref (a 27), .ref (a 28)])), ((a 1), .inr (1, [.ref (a 9), .int 0, .ref (a 10), .int 0, .ref (a 11), .int 0, .ref (a 12), .int 0]))] H := hP
        have hD : va_D A [(h0, .inr (11, [.ref (a 1), .ref (a 2), .ref (a 3), .ref (a 4), .ref (a 5), .ref (a 6), .ref (a 7), .int 0, .ref (a 8), .int 0])), ((a 3), .inr (3, [.ref (a 1), .ref (a 2), .int 0, .ref (a 20), .ref (a 21), .ref (a 22), .ref (a 23), .ref (a 24), .ref (a 25), .ref (a 26), .ref (a 27), .ref (a 28)])), ((a 1), .inr (1, [.ref (a 9), .int 0, .ref (a 10), .int 0, .ref (a 11), .int 0, .ref (a 12), .int 0]))] := hD
        have hK : va_K (dC, dI) vwCl [] s := hK
        exact W.iret (v := 0) hx hb hr (fun t ht hW => ⟨⟨0, 0, rfl, rfl, (if_pos ⟨⟨hf_247, hf_248⟩, ⟨hf_254, hf_255⟩⟩).symm⟩, hS.F ht⟩) hS.2.2 dX11_claims_33
    · refine lq_top (v := 0) hre_256 ?_
      rw [ht] at hP1
      have hK1 := va_K.moved hvm.symm hK1
      obtain ⟨hP, hD⟩ := va_join (wr := [(h0, .inr (11, [.ref (a 1), .ref (a 2), .ref (a 3), .ref (a 4), .ref (a 5), .ref (a 6), .ref (a 7), .int 0, .ref (a 8), .int 0])), ((a 3), .inr (3, [.ref (a 1), .ref (a 2), .int 0, .ref (a 20), .ref (a 21), .ref (a 22), .ref (a 23), .ref (a 24), .ref (a 25), .ref (a 26), .ref (a 27), .ref (a 28)])), ((a 1), .inr (1, [.ref (a 9), .int 0, .ref (a 10), .int 0, .ref (a 11), .int 0, .ref (a 12), .int 0]))]) (w1 := []) hP hD [] [0, 1, 2] rfl rfl (by decide) (by decide) hk1 hFc hP1 hD1
      have hK := (hK.sub (tys' := []) [] rfl).app hK1
      have hP : va_P (dC, dI) vwCl [(h0, .inr (11, [.ref (a 1), .ref (a 2), .ref (a 3), .ref (a 4), .ref (a 5), .ref (a 6), .ref (a 7), .int 0, .ref (a 8), .int 0])), ((a 3), .inr (3, [.ref (a 1), .ref (a 2), .int 0, .ref (a 20), .ref (a 21), .ref (a 22), .ref (a 23), .ref (a 24), .ref (a 25), .ref (a 26), .ref (a 27), .ref (a 28)])), ((a 1), .inr (1, [.ref (a 9), .int 0, .ref (a 10), .int 0, .ref (a 11), .int 0, .ref (a 12), .int 0]))] H := hP
      have hD : va_D A [(h0, .inr (11, [.ref (a 1), .ref (a 2), .ref (a 3), .ref (a 4), .ref (a 5), .ref (a 6), .ref (a 7), .int 0, .ref (a 8), .int 0])), ((a 3), .inr (3, [.ref (a 1), .ref (a 2), .int 0, .ref (a 20), .ref (a 21), .ref (a 22), .ref (a 23), .ref (a 24), .ref (a 25), .ref (a 26), .ref (a 27), .ref (a 28)])), ((a 1), .inr (1, [.ref (a 9), .int 0, .ref (a 10), .int 0, .ref (a 11), .int 0, .ref (a 12), .int 0]))] := hD
      have hK : va_K (dC, dI) vwCl [] s := hK
      refine lv_if_ne (tgt := 21) hx hb dX11_claims_16 (by decide) (fun c_263 => absurd c_263 (fun z => z (by decide))) (fun c_263 => ?_)
      refine lv_iconst (v := (-1)) hx hb dX11_claims_19 (by decide) ?_
      exact W.iret (v := (-1)) hx hb hr (fun t ht hW => ⟨⟨(-1), (-1), rfl, rfl, (if_neg (fun z => hf_257 z.2)).symm⟩, hS.F ht⟩) hS.2.2 dX11_claims_20
  · refine lq_top (v := 0) hre_249 ?_
    rw [ht] at hP1
    have hK1 := va_K.moved hvm.symm hK1
    obtain ⟨hP, hD⟩ := va_join (wr := [(h0, .inr (11, [.ref (a 1), .ref (a 2), .ref (a 3), .ref (a 4), .ref (a 5), .ref (a 6), .ref (a 7), .int 0, .ref (a 8), .int 0])), ((a 3), .inr (3, [.ref (a 1), .ref (a 2), .int 0, .ref (a 20), .ref (a 21), .ref (a 22), .ref (a 23), .ref (a 24), .ref (a 25), .ref (a 26), .ref (a 27), .ref (a 28)])), ((a 1), .inr (1, [.ref (a 9), .int 0, .ref (a 10), .int 0, .ref (a 11), .int 0, .ref (a 12), .int 0]))]) (w1 := []) hP hD [] [0, 1, 2] rfl rfl (by decide) (by decide) hk1 hFc hP1 hD1
    have hK := (hK.sub (tys' := []) [] rfl).app hK1
    have hP : va_P (dC, dI) vwCl [(h0, .inr (11, [.ref (a 1), .ref (a 2), .ref (a 3), .ref (a 4), .ref (a 5), .ref (a 6), .ref (a 7), .int 0, .ref (a 8), .int 0])), ((a 3), .inr (3, [.ref (a 1), .ref (a 2), .int 0, .ref (a 20), .ref (a 21), .ref (a 22), .ref (a 23), .ref (a 24), .ref (a 25), .ref (a 26), .ref (a 27), .ref (a 28)])), ((a 1), .inr (1, [.ref (a 9), .int 0, .ref (a 10), .int 0, .ref (a 11), .int 0, .ref (a 12), .int 0]))] H := hP
    have hD : va_D A [(h0, .inr (11, [.ref (a 1), .ref (a 2), .ref (a 3), .ref (a 4), .ref (a 5), .ref (a 6), .ref (a 7), .int 0, .ref (a 8), .int 0])), ((a 3), .inr (3, [.ref (a 1), .ref (a 2), .int 0, .ref (a 20), .ref (a 21), .ref (a 22), .ref (a 23), .ref (a 24), .ref (a 25), .ref (a 26), .ref (a 27), .ref (a 28)])), ((a 1), .inr (1, [.ref (a 9), .int 0, .ref (a 10), .int 0, .ref (a 11), .int 0, .ref (a 12), .int 0]))] := hD
    have hK : va_K (dC, dI) vwCl [] s := hK
    refine lv_if_eq (tgt := 19) hx hb dX11_claims_7 (by decide) (fun c_264 => ?_) (fun c_264 => absurd c_264 (fun z => z (by decide)))
    refine lv_iconst (v := (-1)) hx hb dX11_claims_19 (by decide) ?_
    exact W.iret (v := (-1)) hx hb hr (fun t ht hW => ⟨⟨(-1), (-1), rfl, rfl, (if_neg (fun z => hf_250 z.1)).symm⟩, hS.F ht⟩) hS.2.2 dX11_claims_20
