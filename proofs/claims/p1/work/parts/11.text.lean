def wo_j_isLatin1 : List Cond := [.fieldLink RJ0 38 "java/lang/String" "COMPACT_STRINGS" "Z", .fieldLink RJ0 15 "java/lang/String" "coder" "B"]
def wm_j_isLatin1 : List Cond := .code yJ0_isLatin1_aae02 cJ0_isLatin1_aae02 1 (some .boolean) :: (wo_j_isLatin1 ++ ([] : List Cond))
theorem gd_j_isLatin1 : ∀ w ∈ wm_j_isLatin1, goodWord w = true := gd_c rfl (gd_a (by decide) gd_nil)
set_option maxRecDepth 20000 in
theorem im_j_isLatin1 : ∀ w ∈ wm_j_isLatin1, w ∈ lw_tbl := im_c (in_r [.code yJ0_isLatin1_aae02 cJ0_isLatin1_aae02 1 (some .boolean)] [210] (by decide +kernel)) (in_app (in_r wo_j_isLatin1 [211, 1757] (by decide +kernel)) im_nil)
set_option maxHeartbeats 4000000 in
set_option maxRecDepth 100000 in
theorem j_isLatin1 (l : Launch) (dC : Nat → ClassId) (dI : Nat → Nat → Nat) (ad av : Nat → Nat) (sz : Nat) (i : Nat) (hi : i < 9) : Met l yJ0_isLatin1_aae02 wm_j_isLatin1 ({ frames := 0, cells := 0, slots := 0, locals := 0 }) (pr_ ad av (dC, dI) sz [.ref (ad i)] [] []) (va_Qi (fun (r u : Int32) => u = r) (fun (r : Int32) (t : State) => (r = 1 ∧ po_ (dC, dI) (va_A [] sz) [] [] t)) (va_A [] sz)) 0 0 (va_A [] sz) := by
  refine Met.ofW (cc := cJ0_isLatin1_aae02) (maxL := 1) (ret := (some .boolean)) (by decide) rfl ?_
  intro p e s m args below meth c s₁ B hml hv
  obtain ⟨rfl, hsz, hP, hK, hD0, hM⟩ := hv
  have hx := B.exec
  have hb := B.bytes
  have hr := B.returns
  have hts := atoms_spec (ws := wm_j_isLatin1) B.pre
  have hown : s.vm.findClass RJ0 = some m.cls := findClass_of_methodNamed B.named
  have hlocks := B.notSynchronized
  subst hsz
  have hD := hD0.self (sz := s.heap.size)
  generalize hAe : va_A [] s.heap.size = A at hD hM ⊢
  have hA : ∀ q : Nat, s.heap.size ≤ q → A q := fun q h => by rw [← hAe]; exact Or.inr h
  have hS : va_S A s.heap s.heap [] := va_S.rf
  have hP : va_P (dC, dI) vwCl [] s.heap := hP
  have hl := lv_entry ([.ref (ad i)]) (n := 1) (Nat.le_of_ble_eq_true rfl)
  rw [lg_entry_eq]
  generalize (lg_sl ([.ref (ad i)]) ++ List.replicate (1 - (lg_sl ([.ref (ad i)])).length) Slot.unset).toArray = ls at hl ⊢
  have hl : lv_has ls 1 [(0, .ref (ad i))] := hl
  have hStr := st_at hM i hi
  have hsL := sL_le i
  obtain ⟨fS, hT⟩ := hStr.2.2.2
  refine va_gets hx hb hM.2.2.2.1 hS hown (hts (.fieldLink RJ0 38 "java/lang/String" "COMPACT_STRINGS" "Z") (List.mem_cons_of_mem _ (List.mem_append_left _ (List.mem_of_getElem? (i := 0) rfl)))) (fun _ h9 => h9) dJ0_isLatin1_aae02_0 ?_
  refine lv_if_eq (tgt := 17) hx hb dJ0_isLatin1_aae02_3 (by decide) (fun c_1 => absurd c_1 (by decide)) (fun c_1 => ?_)
  refine lv_aload_n hx hb dJ0_isLatin1_aae02_6 rfl (lv_at hl 0 rfl) ?_
  refine vk_getf hx hb hStr.2.1 hS hown (hts (.fieldLink RJ0 15 "java/lang/String" "coder" "B") (List.mem_cons_of_mem _ (List.mem_append_left _ (List.mem_of_getElem? (i := 1) rfl)))) (fun _ h9 => h9) dJ0_isLatin1_aae02_7 ?_
  refine lv_if_ne (tgt := 17) hx hb dJ0_isLatin1_aae02_10 (by decide) (fun c_2 => absurd c_2 (fun z => z (by decide))) (fun c_2 => ?_)
  refine lv_iconst (v := 1) hx hb dJ0_isLatin1_aae02_13 (by decide) ?_
  refine lv_goto (tgt := 18) hx hb dJ0_isLatin1_aae02_14 (by decide) ?_
  have hP9 := hP.sub (ws' := []) [] rfl
  have hD9 := hD.sub (ws' := []) [] (by decide) rfl
  have hK9 := hK.sub (tys' := []) [] rfl
  exact W.zret (v := 1) hx hb hr (by decide) (fun t ht hW => ⟨⟨1, 1, rfl, rfl, ⟨rfl, by rw [ht]; exact hP9, va_K.moved hW.alike hK9, hD9⟩⟩, hS.F ht⟩) hS.2.2 dJ0_isLatin1_aae02_18
def wo_j_coder : List Cond := [.fieldLink RJ0 38 "java/lang/String" "COMPACT_STRINGS" "Z", .fieldLink RJ0 15 "java/lang/String" "coder" "B"]
def wm_j_coder : List Cond := .code yJ0_coder_7d493 cJ0_coder_7d493 1 (some .byte) :: (wo_j_coder ++ ([] : List Cond))
theorem gd_j_coder : ∀ w ∈ wm_j_coder, goodWord w = true := gd_c rfl (gd_a (by decide) gd_nil)
set_option maxRecDepth 20000 in
theorem im_j_coder : ∀ w ∈ wm_j_coder, w ∈ lw_tbl := im_c (in_r [.code yJ0_coder_7d493 cJ0_coder_7d493 1 (some .byte)] [281] (by decide +kernel)) (in_app (in_r wo_j_coder [211, 1757] (by decide +kernel)) im_nil)
set_option maxHeartbeats 4000000 in
set_option maxRecDepth 100000 in
theorem j_coder (l : Launch) (dC : Nat → ClassId) (dI : Nat → Nat → Nat) (ad av : Nat → Nat) (sz : Nat) (i : Nat) (hi : i < 9) : Met l yJ0_coder_7d493 wm_j_coder ({ frames := 0, cells := 0, slots := 0, locals := 0 }) (pr_ ad av (dC, dI) sz [.ref (ad i)] [] []) (va_Qi (fun (r u : Int32) => u = r) (fun (r : Int32) (t : State) => (r = 0 ∧ po_ (dC, dI) (va_A [] sz) [] [] t)) (va_A [] sz)) 0 0 (va_A [] sz) := by
  refine Met.ofW (cc := cJ0_coder_7d493) (maxL := 1) (ret := (some .byte)) (by decide) rfl ?_
  intro p e s m args below meth c s₁ B hml hv
  obtain ⟨rfl, hsz, hP, hK, hD0, hM⟩ := hv
  have hx := B.exec
  have hb := B.bytes
  have hr := B.returns
  have hts := atoms_spec (ws := wm_j_coder) B.pre
  have hown : s.vm.findClass RJ0 = some m.cls := findClass_of_methodNamed B.named
  have hlocks := B.notSynchronized
  subst hsz
  have hD := hD0.self (sz := s.heap.size)
  generalize hAe : va_A [] s.heap.size = A at hD hM ⊢
  have hA : ∀ q : Nat, s.heap.size ≤ q → A q := fun q h => by rw [← hAe]; exact Or.inr h
  have hS : va_S A s.heap s.heap [] := va_S.rf
  have hP : va_P (dC, dI) vwCl [] s.heap := hP
  have hl := lv_entry ([.ref (ad i)]) (n := 1) (Nat.le_of_ble_eq_true rfl)
  rw [lg_entry_eq]
  generalize (lg_sl ([.ref (ad i)]) ++ List.replicate (1 - (lg_sl ([.ref (ad i)])).length) Slot.unset).toArray = ls at hl ⊢
  have hl : lv_has ls 1 [(0, .ref (ad i))] := hl
  have hStr := st_at hM i hi
  have hsL := sL_le i
  obtain ⟨fS, hT⟩ := hStr.2.2.2
  refine va_gets hx hb hM.2.2.2.1 hS hown (hts (.fieldLink RJ0 38 "java/lang/String" "COMPACT_STRINGS" "Z") (List.mem_cons_of_mem _ (List.mem_append_left _ (List.mem_of_getElem? (i := 0) rfl)))) (fun _ h9 => h9) dJ0_coder_7d493_0 ?_
  refine lv_if_eq (tgt := 13) hx hb dJ0_coder_7d493_3 (by decide) (fun c_3 => absurd c_3 (by decide)) (fun c_3 => ?_)
  refine lv_aload_n hx hb dJ0_coder_7d493_6 rfl (lv_at hl 0 rfl) ?_
  refine vk_getf hx hb hStr.2.1 hS hown (hts (.fieldLink RJ0 15 "java/lang/String" "coder" "B") (List.mem_cons_of_mem _ (List.mem_append_left _ (List.mem_of_getElem? (i := 1) rfl)))) (fun _ h9 => h9) dJ0_coder_7d493_7 ?_
  refine lv_goto (tgt := 14) hx hb dJ0_coder_7d493_10 (by decide) ?_
  have hP9 := hP.sub (ws' := []) [] rfl
  have hD9 := hD.sub (ws' := []) [] (by decide) rfl
  have hK9 := hK.sub (tys' := []) [] rfl
  exact W.zret (v := 0) hx hb hr (by decide) (fun t ht hW => ⟨⟨0, 0, rfl, rfl, ⟨rfl, by rw [ht]; exact hP9, va_K.moved hW.alike hK9, hD9⟩⟩, hS.F ht⟩) hS.2.2 dJ0_coder_7d493_14
def wo_j_length : List Cond := [.fieldLink RJ0 9 "java/lang/String" "value" "[B", .methodLink RJ0 335 yJ0_coder_7d493, .instanceMethod yJ0_coder_7d493, .selects RJ0 yJ0_coder_7d493 yJ0_coder_7d493, .initialized RJ0]
def wm_j_length : List Cond := .code yJ0_length_8abf5 cJ0_length_8abf5 1 (some .int) :: (wo_j_length ++ (wm_j_coder ++ ([] : List Cond)))
theorem gd_j_length : ∀ w ∈ wm_j_length, goodWord w = true := gd_c rfl (gd_a (by decide) (gd_a gd_j_coder gd_nil))
set_option maxRecDepth 20000 in
theorem im_j_length : ∀ w ∈ wm_j_length, w ∈ lw_tbl := im_c (in_r [.code yJ0_length_8abf5 cJ0_length_8abf5 1 (some .int)] [277] (by decide +kernel)) (in_app (in_r wo_j_length [1758, 278, 279, 280, 74] (by decide +kernel)) (in_app im_j_coder im_nil))
set_option maxHeartbeats 4000000 in
set_option maxRecDepth 100000 in
theorem j_length (l : Launch) (dC : Nat → ClassId) (dI : Nat → Nat → Nat) (ad av : Nat → Nat) (sz : Nat) (i : Nat) (hi : i < 9) : Met l yJ0_length_8abf5 wm_j_length ({ frames := 1, cells := 0, slots := 0, locals := 40 }) (pr_ ad av (dC, dI) sz [.ref (ad i)] [] []) (va_Qi (fun (r u : Int32) => u = r) (fun (r : Int32) (t : State) => (r = nI (sL i) ∧ po_ (dC, dI) (va_A [] sz) [] [] t)) (va_A [] sz)) 0 0 (va_A [] sz) := by
  refine Met.ofW (cc := cJ0_length_8abf5) (maxL := 1) (ret := (some .int)) (by decide) rfl ?_
  intro p e s m args below meth c s₁ B hml hv
  obtain ⟨rfl, hsz, hP, hK, hD0, hM⟩ := hv
  have hx := B.exec
  have hb := B.bytes
  have hr := B.returns
  have hts := atoms_spec (ws := wm_j_length) B.pre
  have hown : s.vm.findClass RJ0 = some m.cls := findClass_of_methodNamed B.named
  have hlocks := B.notSynchronized
  subst hsz
  have hD := hD0.self (sz := s.heap.size)
  generalize hAe : va_A [] s.heap.size = A at hD hM ⊢
  have hA : ∀ q : Nat, s.heap.size ≤ q → A q := fun q h => by rw [← hAe]; exact Or.inr h
  have hS : va_S A s.heap s.heap [] := va_S.rf
  have hP : va_P (dC, dI) vwCl [] s.heap := hP
  have hl := lv_entry ([.ref (ad i)]) (n := 1) (Nat.le_of_ble_eq_true rfl)
  rw [lg_entry_eq]
  generalize (lg_sl ([.ref (ad i)]) ++ List.replicate (1 - (lg_sl ([.ref (ad i)])).length) Slot.unset).toArray = ls at hl ⊢
  have hl : lv_has ls 1 [(0, .ref (ad i))] := hl
  have hStr := st_at hM i hi
  have hsL := sL_le i
  obtain ⟨fS, hT⟩ := hStr.2.2.2
  refine lv_aload_n hx hb dJ0_length_8abf5_0 rfl (lv_at hl 0 rfl) ?_
  refine vk_getf hx hb hStr.2.2.1 hS hown (hts (.fieldLink RJ0 9 "java/lang/String" "value" "[B") (List.mem_cons_of_mem _ (List.mem_append_left _ (List.mem_of_getElem? (i := 0) rfl)))) (fun _ h9 => h9) dJ0_length_8abf5_1 ?_
  refine va_tlen (v := nI (sL i)) hx hb hT hS rfl dJ0_length_8abf5_4 ?_
  refine lv_aload_n hx hb dJ0_length_8abf5_5 rfl (lv_at hl 0 rfl) ?_
  have hPc := hP.sub (ws' := []) [] rfl
  have hDc := hD.sub (ws' := []) [] (by decide) rfl
  have hKc := hK.sub (tys' := []) [] rfl
  have hFc := va_free (wc := []) hD hS hA [] rfl
  refine va_calli (va_runV (As := []) (rest := [.int (nI (sL i))]) ⟨hx, hb, hml, hown, hts⟩ (j_coder l dC dI ad av s.heap.size i (by omega)) (cwV 0 hts (gi_4 (List.mem_cons_of_mem _ (List.mem_append_left _ (List.mem_of_getElem? (i := 1) rfl))) (List.mem_cons_of_mem _ (List.mem_append_left _ (List.mem_of_getElem? (i := 2) rfl))) (List.mem_cons_of_mem _ (List.mem_append_left _ (List.mem_of_getElem? (i := 3) rfl))) (List.mem_cons_of_mem _ (List.mem_append_left _ (List.mem_of_getElem? (i := 4) rfl))) (fun _ hh => (List.mem_cons_of_mem _ (List.mem_append_right _ (List.mem_append_left _ hh)))) gd_j_coder) rfl rfl rfl (by decide +kernel) ⟨Nat.le_of_ble_eq_true rfl, Nat.le_of_ble_eq_true rfl⟩) ⟨pr_blind, st_recv hStr hS, pr_use hPc hKc hDc hFc hS hM⟩ rfl rfl hl.1 rfl (lv_room (Nat.le_of_ble_eq_true rfl)) dJ0_length_8abf5_6 ⟨Nat.le_of_ble_eq_true rfl, Nat.le_of_ble_eq_true rfl⟩) hS (fun q _ h => hFc q h) hFc (fun r_4 u t H locs ht hvm hw hB hz1 hk1 hS => ?_)
  refine W.widen (k := 0) (n := 0) (Nat.le_of_ble_eq_true rfl) (Nat.le_of_ble_eq_true rfl) ?_
  subst hw
  obtain ⟨hre_5, hP1, hK1, hD1⟩ := hB
  refine lq_top (v := 0) hre_5 ?_
  rw [ht] at hP1
  have hK1 := va_K.moved hvm.symm hK1
  obtain ⟨hP, hD⟩ := va_join (wr := []) (w1 := []) hP hD [] [] rfl rfl (by decide) (by decide) hk1 hFc hP1 hD1
  have hK := (hK.sub (tys' := []) [] rfl).app hK1
  have hP : va_P (dC, dI) vwCl [] H := hP
  have hD : va_D A [] := hD
  have hK : va_K (dC, dI) vwCl [] s := hK
  refine lv_ishr hx hb dJ0_length_8abf5_9 ?_
  refine lq_top (v := nI (sL i)) (sb_shr0 _) ?_
  have hP9 := hP.sub (ws' := []) [] rfl
  have hD9 := hD.sub (ws' := []) [] (by decide) rfl
  have hK9 := hK.sub (tys' := []) [] rfl
  exact W.iret (v := nI (sL i)) hx hb hr (fun t ht hW => ⟨⟨nI (sL i), nI (sL i), rfl, rfl, ⟨rfl, by rw [ht]; exact hP9, va_K.moved hW.alike hK9, hD9⟩⟩, hS.F ht⟩) hS.2.2 dJ0_length_8abf5_10
def wo_j_canEncode : List Cond := []
def wm_j_canEncode : List Cond := .code yJ1_canEncode_9a6ad cJ1_canEncode_9a6ad 1 (some .boolean) :: (wo_j_canEncode ++ ([] : List Cond))
theorem gd_j_canEncode : ∀ w ∈ wm_j_canEncode, goodWord w = true := gd_c rfl (gd_a (by decide) gd_nil)
set_option maxRecDepth 20000 in
theorem im_j_canEncode : ∀ w ∈ wm_j_canEncode, w ∈ lw_tbl := im_c (in_r [.code yJ1_canEncode_9a6ad cJ1_canEncode_9a6ad 1 (some .boolean)] [287] (by decide +kernel)) (in_app (in_r wo_j_canEncode [] (by decide +kernel)) im_nil)
set_option maxHeartbeats 4000000 in
set_option maxRecDepth 100000 in
theorem j_canEncode (l : Launch) (dC : Nat → ClassId) (dI : Nat → Nat → Nat) (ad av : Nat → Nat) (sz : Nat) (p0 : Int32) : Met l yJ1_canEncode_9a6ad wm_j_canEncode ({ frames := 0, cells := 0, slots := 0, locals := 0 }) (pr_ ad av (dC, dI) sz [.int p0] [] []) (va_Qi (fun (r u : Int32) => u = r) (fun (r : Int32) (t : State) => (r = 1 ∧ po_ (dC, dI) (va_A [] sz) [] [] t) ∨ (r = 0 ∧ po_ (dC, dI) (va_A [] sz) [] [] t)) (va_A [] sz)) 0 0 (va_A [] sz) := by
  refine Met.ofW (cc := cJ1_canEncode_9a6ad) (maxL := 1) (ret := (some .boolean)) (by decide) rfl ?_
  intro p e s m args below meth c s₁ B hml hv
  obtain ⟨rfl, hsz, hP, hK, hD0, hM⟩ := hv
  have hx := B.exec
  have hb := B.bytes
  have hr := B.returns
  have hts := atoms_spec (ws := wm_j_canEncode) B.pre
  have hown : s.vm.findClass RJ1 = some m.cls := findClass_of_methodNamed B.named
  have hlocks := B.notSynchronized
  subst hsz
  have hD := hD0.self (sz := s.heap.size)
  generalize hAe : va_A [] s.heap.size = A at hD hM ⊢
  have hA : ∀ q : Nat, s.heap.size ≤ q → A q := fun q h => by rw [← hAe]; exact Or.inr h
  have hS : va_S A s.heap s.heap [] := va_S.rf
  have hP : va_P (dC, dI) vwCl [] s.heap := hP
  have hl := lv_entry ([.int p0]) (n := 1) (Nat.le_of_ble_eq_true rfl)
  rw [lg_entry_eq]
  generalize (lg_sl ([.int p0]) ++ List.replicate (1 - (lg_sl ([.int p0])).length) Slot.unset).toArray = ls at hl ⊢
  have hl : lv_has ls 1 [(0, .int p0)] := hl
  refine lv_iload_n hx hb dJ1_canEncode_9a6ad_0 rfl (lv_at hl 0 rfl) ?_
  refine lv_if_lt (tgt := 15) hx hb dJ1_canEncode_9a6ad_1 (by decide) (fun c_6 => ?_) (fun c_6 => ?_)
  · refine lv_iconst (v := 0) hx hb dJ1_canEncode_9a6ad_15 (by decide) ?_
    have hP9 := hP.sub (ws' := []) [] rfl
    have hD9 := hD.sub (ws' := []) [] (by decide) rfl
    have hK9 := hK.sub (tys' := []) [] rfl
    exact W.zret (v := 0) hx hb hr (by decide) (fun t ht hW => ⟨⟨0, 0, rfl, rfl, Or.inr (⟨rfl, by rw [ht]; exact hP9, va_K.moved hW.alike hK9, hD9⟩)⟩, hS.F ht⟩) hS.2.2 dJ1_canEncode_9a6ad_16
  · refine lv_iload_n hx hb dJ1_canEncode_9a6ad_4 rfl (lv_at hl 0 rfl) ?_
    refine lv_sipush (v := 255) hx hb dJ1_canEncode_9a6ad_5 (by decide) ?_
    refine lv_icmp_gt (tgt := 15) hx hb dJ1_canEncode_9a6ad_8 (by decide) (fun c_7 => ?_) (fun c_7 => ?_)
    · refine lv_iconst (v := 0) hx hb dJ1_canEncode_9a6ad_15 (by decide) ?_
      have hP9 := hP.sub (ws' := []) [] rfl
      have hD9 := hD.sub (ws' := []) [] (by decide) rfl
      have hK9 := hK.sub (tys' := []) [] rfl
      exact W.zret (v := 0) hx hb hr (by decide) (fun t ht hW => ⟨⟨0, 0, rfl, rfl, Or.inr (⟨rfl, by rw [ht]; exact hP9, va_K.moved hW.alike hK9, hD9⟩)⟩, hS.F ht⟩) hS.2.2 dJ1_canEncode_9a6ad_16
    · refine lv_iconst (v := 1) hx hb dJ1_canEncode_9a6ad_11 (by decide) ?_
      refine lv_goto (tgt := 16) hx hb dJ1_canEncode_9a6ad_12 (by decide) ?_
      have hP9 := hP.sub (ws' := []) [] rfl
      have hD9 := hD.sub (ws' := []) [] (by decide) rfl
      have hK9 := hK.sub (tys' := []) [] rfl
      exact W.zret (v := 1) hx hb hr (by decide) (fun t ht hW => ⟨⟨1, 1, rfl, rfl, Or.inl ⟨rfl, by rw [ht]; exact hP9, va_K.moved hW.alike hK9, hD9⟩⟩, hS.F ht⟩) hS.2.2 dJ1_canEncode_9a6ad_16
def wo_j_indexOfChar : List Cond := []
def wm_j_indexOfChar : List Cond := .code yJ1_indexOfChar_4cfef cJ1_indexOfChar_4cfef 6 (some .int) :: (wo_j_indexOfChar ++ ([] : List Cond))
theorem gd_j_indexOfChar : ∀ w ∈ wm_j_indexOfChar, goodWord w = true := gd_c rfl (gd_a (by decide) gd_nil)
set_option maxRecDepth 20000 in
theorem im_j_indexOfChar : ∀ w ∈ wm_j_indexOfChar, w ∈ lw_tbl := im_c (in_r [.code yJ1_indexOfChar_4cfef cJ1_indexOfChar_4cfef 6 (some .int)] [294] (by decide +kernel)) (in_app (in_r wo_j_indexOfChar [] (by decide +kernel)) im_nil)
set_option maxHeartbeats 4000000 in
set_option maxRecDepth 100000 in
theorem j_indexOfChar (l : Launch) (dC : Nat → ClassId) (dI : Nat → Nat → Nat) (ad av : Nat → Nat) (sz : Nat) (i : Nat) (p0 : Int32) (hi : i < 9) : Met l yJ1_indexOfChar_4cfef wm_j_indexOfChar ({ frames := 0, cells := 0, slots := 0, locals := 0 }) (pr_ ad av (dC, dI) sz [.ref (av i), .int p0, .int 0, .int (nI (sL i))] [] []) (va_Qi (fun (r u : Int32) => u = r) (fun (r : Int32) (t : State) => (∃ (r9 : Int32), r = r9 ∧ po_ (dC, dI) (va_A [] sz) [] [] t)) (va_A [] sz)) 0 0 (va_A [] sz) := by
  refine Met.ofW (cc := cJ1_indexOfChar_4cfef) (maxL := 6) (ret := (some .int)) (by decide) rfl ?_
  intro p e s m args below meth c s₁ B hml hv
  obtain ⟨rfl, hsz, hP, hK, hD0, hM⟩ := hv
  have hx := B.exec
  have hb := B.bytes
  have hr := B.returns
  have hts := atoms_spec (ws := wm_j_indexOfChar) B.pre
  have hown : s.vm.findClass RJ1 = some m.cls := findClass_of_methodNamed B.named
  have hlocks := B.notSynchronized
  subst hsz
  have hD := hD0.self (sz := s.heap.size)
  generalize hAe : va_A [] s.heap.size = A at hD hM ⊢
  have hA : ∀ q : Nat, s.heap.size ≤ q → A q := fun q h => by rw [← hAe]; exact Or.inr h
  have hS : va_S A s.heap s.heap [] := va_S.rf
  have hP : va_P (dC, dI) vwCl [] s.heap := hP
  have hl := lv_entry ([.ref (av i), .int p0, .int 0, .int (nI (sL i))]) (n := 6) (Nat.le_of_ble_eq_true rfl)
  rw [lg_entry_eq]
  generalize (lg_sl ([.ref (av i), .int p0, .int 0, .int (nI (sL i))]) ++ List.replicate (6 - (lg_sl ([.ref (av i), .int p0, .int 0, .int (nI (sL i))])).length) Slot.unset).toArray = ls at hl ⊢
  have hl : lv_has ls 6 [(0, .ref (av i)), (1, .int p0), (2, .int 0), (3, .int (nI (sL i)))] := hl
  have hStr := st_at hM i hi
  have hsL := sL_le i
  obtain ⟨fS, hT⟩ := hStr.2.2.2
  refine lv_iload_n hx hb dJ1_indexOfChar_4cfef_0 rfl (lv_at hl 1 rfl) ?_
  refine lv_i2b hx hb dJ1_indexOfChar_4cfef_1 rfl ?_
  refine lv_topi (fun x_8 ex_8 => ?_)
  refine lv_istore (lv' := [(4, .int x_8), (0, .ref (av i)), (1, .int p0), (2, .int 0), (3, .int (nI (sL i)))]) hx hb dJ1_indexOfChar_4cfef_2 hl (by decide) rfl (fun ls hl => ?_)
  refine lv_iload_n hx hb dJ1_indexOfChar_4cfef_4 rfl (lv_at hl 3 rfl) ?_
  refine lv_istore (lv' := [(5, .int 0), (4, .int x_8), (0, .ref (av i)), (1, .int p0), (2, .int 0), (3, .int (nI (sL i)))]) hx hb dJ1_indexOfChar_4cfef_5 hl (by decide) rfl (fun ls hl => ?_)
  have loop_7 : ∀ (n : Nat) (j : Nat) (H : Heap) (locs : List Loc) (ls : Array Slot), sL i - j < n → j ≤ sL i → va_K (dC, dI) vwCl [] s → va_P (dC, dI) vwCl [] H → va_D A [] → va_S A s.heap H locs → lv_has ls 6 [(5, .int (nI j)), (4, .int x_8), (0, .ref (av i)), (1, .int p0), (2, .int 0), (3, .int (nI (sL i)))] → W p l e (headSpec wm_j_indexOfChar ({ frames := 0, cells := 0, slots := 0, locals := 0 })).room s m ([.ref (av i), .int p0, .int 0, .int (nI (sL i))] : List Value).toArray below meth c H locs 0 0 (MQ below (va_Qi (fun (r u : Int32) => u = r) (fun (r : Int32) (t : State) => (∃ (r9 : Int32), r = r9 ∧ po_ (dC, dI) A [] [] t)) A) ([.ref (av i), .int p0, .int 0, .int (nI (sL i))] : List Value).toArray s 0 0 A) (F0 m 7 ls []) := by
    intro n
    induction n with
    | zero => intro j H locs ls hlt; exact absurd hlt (Nat.not_lt_zero _)
    | succ n ih_7 =>
      intro j H locs ls hlt hj hK hP hD hS hl
      refine lv_iload hx hb dJ1_indexOfChar_4cfef_7 (lv_at hl 0 rfl) ?_
      refine lv_iload_n hx hb dJ1_indexOfChar_4cfef_9 rfl (lv_at hl 5 rfl) ?_
      refine lv_icmp_ge (tgt := 31) hx hb dJ1_indexOfChar_4cfef_10 (by decide) (fun c_9 => ?_) (fun c_9 => ?_)
      · have hn_c_9 := q_le (sL i) j c_9 rfl rfl (by omega) (by omega)
        refine lv_iconst (v := (-1)) hx hb dJ1_indexOfChar_4cfef_31 (by decide) ?_
        have hP9 := hP.sub (ws' := []) [] rfl
        have hD9 := hD.sub (ws' := []) [] (by decide) rfl
        have hK9 := hK.sub (tys' := []) [] rfl
        exact W.iret (v := (-1)) hx hb hr (fun t ht hW => ⟨⟨(-1), (-1), rfl, rfl, ⟨(-1), rfl, by rw [ht]; exact hP9, va_K.moved hW.alike hK9, hD9⟩⟩, hS.F ht⟩) hS.2.2 dJ1_indexOfChar_4cfef_32
      · have hn_c_9 := q_nle (sL i) j c_9 rfl rfl (by omega) (by omega)
        refine lv_aload_n hx hb dJ1_indexOfChar_4cfef_13 rfl (lv_at hl 2 rfl) ?_
        refine lv_iload hx hb dJ1_indexOfChar_4cfef_14 (lv_at hl 0 rfl) ?_
        refine va_tb hx hb hT hS (vp_in_nI (n := j) (by omega) (by omega)) rfl dJ1_indexOfChar_4cfef_16 ?_
        refine lv_topi (fun x_10 ex_10 => ?_)
        refine lv_iload hx hb dJ1_indexOfChar_4cfef_17 (lv_at hl 1 rfl) ?_
        refine lv_icmp_ne (tgt := 25) hx hb dJ1_indexOfChar_4cfef_19 (by decide) (fun c_11 => ?_) (fun c_11 => ?_)
        · refine lv_iinc (v := nI (j + 1)) (lv' := [(5, .int (nI (j + 1))), (4, .int x_8), (0, .ref (av i)), (1, .int p0), (2, .int 0), (3, .int (nI (sL i)))]) hx hb dJ1_indexOfChar_4cfef_25 hl (k := 0) rfl (nI_1 j) (by decide) rfl (fun ls hl => ?_)
          refine lv_goto (tgt := 7) hx hb dJ1_indexOfChar_4cfef_28 (by decide) ?_
          exact ih_7  (j + 1) H _ ls (by omega) (by omega) (hK.sub (tys' := []) [] rfl) (hP.sub (ws' := []) [] rfl) (hD.sub (ws' := []) [] (by decide) rfl) hS (lv_sub hl [0, 1, 2, 3, 4, 5] rfl)
        · refine lv_iload hx hb dJ1_indexOfChar_4cfef_22 (lv_at hl 0 rfl) ?_
          have hP9 := hP.sub (ws' := []) [] rfl
          have hD9 := hD.sub (ws' := []) [] (by decide) rfl
          have hK9 := hK.sub (tys' := []) [] rfl
          exact W.iret (v := nI j) hx hb hr (fun t ht hW => ⟨⟨nI j, nI j, rfl, rfl, ⟨nI j, rfl, by rw [ht]; exact hP9, va_K.moved hW.alike hK9, hD9⟩⟩, hS.F ht⟩) hS.2.2 dJ1_indexOfChar_4cfef_24
  exact loop_7 ((sL i - 0) + 1) 0 s.heap _ ls (by omega) (by omega) (hK.sub (tys' := []) [] rfl) (hP.sub (ws' := []) [] rfl) (hD.sub (ws' := []) [] (by decide) rfl) hS (lv_sub hl [0, 1, 2, 3, 4, 5] rfl)
def wo_j_indexOfB : List Cond := [.methodLink RJ1 88 yJ1_canEncode_9a6ad, .static yJ1_canEncode_9a6ad, .initialized RJ1, .methodLink RJ1 92 Lib.Math.max.name, .static Lib.Math.max.name, .initialized "java/lang/Math", .code Lib.Math.max.name Lib.Math.max.code 2 (some .int), .methodLink RJ1 38 Lib.Math.min.name, .static Lib.Math.min.name, .code Lib.Math.min.name Lib.Math.min.code 2 (some .int), .methodLink RJ1 95 yJ1_indexOfChar_4cfef, .static yJ1_indexOfChar_4cfef]
def wm_j_indexOfB : List Cond := .code yJ1_indexOf_4cfef cJ1_indexOf_4cfef 4 (some .int) :: (wo_j_indexOfB ++ (wm_j_canEncode ++ (wm_j_indexOfChar ++ ([] : List Cond))))
theorem gd_j_indexOfB : ∀ w ∈ wm_j_indexOfB, goodWord w = true := gd_c rfl (gd_a (by decide) (gd_a gd_j_canEncode (gd_a gd_j_indexOfChar gd_nil)))
set_option maxRecDepth 20000 in
theorem im_j_indexOfB : ∀ w ∈ wm_j_indexOfB, w ∈ lw_tbl := im_c (in_r [.code yJ1_indexOf_4cfef cJ1_indexOf_4cfef 4 (some .int)] [284] (by decide +kernel)) (in_app (in_r wo_j_indexOfB [285, 286, 75, 288, 289, 78, 290, 291, 260, 261, 292, 293] (by decide +kernel)) (in_app im_j_canEncode (in_app im_j_indexOfChar im_nil)))
set_option maxHeartbeats 4000000 in
set_option maxRecDepth 100000 in
theorem j_indexOfB (l : Launch) (dC : Nat → ClassId) (dI : Nat → Nat → Nat) (ad av : Nat → Nat) (sz : Nat) (i : Nat) (p0 : Int32) (hi : i < 9) : Met l yJ1_indexOf_4cfef wm_j_indexOfB ({ frames := 2, cells := 0, slots := 0, locals := 60 }) (pr_ ad av (dC, dI) sz [.ref (av i), .int p0, .int 0, .int (nI (sL i))] [] []) (va_Qi (fun (r u : Int32) => u = r) (fun (r : Int32) (t : State) => (∃ (r9 : Int32), r = r9 ∧ po_ (dC, dI) (va_A [] sz) [] [] t)) (va_A [] sz)) 0 0 (va_A [] sz) := by
  refine Met.ofW (cc := cJ1_indexOf_4cfef) (maxL := 4) (ret := (some .int)) (by decide) rfl ?_
  intro p e s m args below meth c s₁ B hml hv
  obtain ⟨rfl, hsz, hP, hK, hD0, hM⟩ := hv
  have hx := B.exec
  have hb := B.bytes
  have hr := B.returns
  have hts := atoms_spec (ws := wm_j_indexOfB) B.pre
  have hown : s.vm.findClass RJ1 = some m.cls := findClass_of_methodNamed B.named
  have hlocks := B.notSynchronized
  subst hsz
  have hD := hD0.self (sz := s.heap.size)
  generalize hAe : va_A [] s.heap.size = A at hD hM ⊢
  have hA : ∀ q : Nat, s.heap.size ≤ q → A q := fun q h => by rw [← hAe]; exact Or.inr h
  have hS : va_S A s.heap s.heap [] := va_S.rf
  have hP : va_P (dC, dI) vwCl [] s.heap := hP
  have hl := lv_entry ([.ref (av i), .int p0, .int 0, .int (nI (sL i))]) (n := 4) (Nat.le_of_ble_eq_true rfl)
  rw [lg_entry_eq]
  generalize (lg_sl ([.ref (av i), .int p0, .int 0, .int (nI (sL i))]) ++ List.replicate (4 - (lg_sl ([.ref (av i), .int p0, .int 0, .int (nI (sL i))])).length) Slot.unset).toArray = ls at hl ⊢
  have hl : lv_has ls 4 [(0, .ref (av i)), (1, .int p0), (2, .int 0), (3, .int (nI (sL i)))] := hl
  have hStr := st_at hM i hi
  have hsL := sL_le i
  obtain ⟨fS, hT⟩ := hStr.2.2.2
  refine lv_iload_n hx hb dJ1_indexOf_4cfef_0 rfl (lv_at hl 1 rfl) ?_
  have hPc := hP.sub (ws' := []) [] rfl
  have hDc := hD.sub (ws' := []) [] (by decide) rfl
  have hKc := hK.sub (tys' := []) [] rfl
  have hFc := va_free (wc := []) hD hS hA [] rfl
  refine va_calli (va_runS (As := [.int p0]) (rest := []) ⟨hx, hb, hml, hown, hts⟩ (j_canEncode l dC dI ad av s.heap.size p0 ) (va_cwS 1 hts (gi_3 (List.mem_cons_of_mem _ (List.mem_append_left _ (List.mem_of_getElem? (i := 0) rfl))) (List.mem_cons_of_mem _ (List.mem_append_left _ (List.mem_of_getElem? (i := 1) rfl))) (List.mem_cons_of_mem _ (List.mem_append_left _ (List.mem_of_getElem? (i := 2) rfl))) (fun _ hh => (List.mem_cons_of_mem _ (List.mem_append_right _ (List.mem_append_left _ hh)))) gd_j_canEncode) rfl rfl rfl (by decide +kernel) ⟨Nat.le_of_ble_eq_true rfl, Nat.le_of_ble_eq_true rfl⟩) ⟨pr_blind, pr_use hPc hKc hDc hFc hS hM⟩ rfl rfl hl.1 rfl (lv_room (Nat.le_of_ble_eq_true rfl)) dJ1_indexOf_4cfef_1 ⟨Nat.le_of_ble_eq_true rfl, Nat.le_of_ble_eq_true rfl⟩) hS (fun q _ h => hFc q h) hFc (fun r_12 u t H locs ht hvm hw hB hz1 hk1 hS => ?_)
  refine W.widen (k := 0) (n := 0) (Nat.le_of_ble_eq_true rfl) (Nat.le_of_ble_eq_true rfl) ?_
  subst hw
  rcases hB with ⟨hre_13, hP1, hK1, hD1⟩ | ⟨hre_14, hP1, hK1, hD1⟩
  · refine lq_top (v := 1) hre_13 ?_
    rw [ht] at hP1
    have hK1 := va_K.moved hvm.symm hK1
    obtain ⟨hP, hD⟩ := va_join (wr := []) (w1 := []) hP hD [] [] rfl rfl (by decide) (by decide) hk1 hFc hP1 hD1
    have hK := (hK.sub (tys' := []) [] rfl).app hK1
    have hP : va_P (dC, dI) vwCl [] H := hP
    have hD : va_D A [] := hD
    have hK : va_K (dC, dI) vwCl [] s := hK
    refine lv_if_ne (tgt := 9) hx hb dJ1_indexOf_4cfef_4 (by decide) (fun c_15 => ?_) (fun c_15 => absurd c_15 (by decide))
    refine lv_iload_n hx hb dJ1_indexOf_4cfef_9 rfl (lv_at hl 2 rfl) ?_
    refine lv_iconst (v := 0) hx hb dJ1_indexOf_4cfef_10 (by decide) ?_
    refine va_mmax hx hb (by rw [hml]; exact hl.1.symm) hown (hts (.methodLink RJ1 92 Lib.Math.max.name) (List.mem_cons_of_mem _ (List.mem_append_left _ (List.mem_of_getElem? (i := 3) rfl)))) (hts (.static Lib.Math.max.name) (List.mem_cons_of_mem _ (List.mem_append_left _ (List.mem_of_getElem? (i := 4) rfl)))) (hts (.initialized "java/lang/Math") (List.mem_cons_of_mem _ (List.mem_append_left _ (List.mem_of_getElem? (i := 5) rfl)))) (hts (.code Lib.Math.max.name Lib.Math.max.code 2 (some .int)) (List.mem_cons_of_mem _ (List.mem_append_left _ (List.mem_of_getElem? (i := 6) rfl)))) (Nat.le_of_ble_eq_true rfl) (Nat.le_of_ble_eq_true rfl) (Nat.le_of_ble_eq_true rfl) (Nat.le_of_ble_eq_true rfl) dJ1_indexOf_4cfef_11 ?_
    refine lq_top (v := 0) (by decide) ?_
    refine lv_istore_n (lv' := [(2, .int 0), (0, .ref (av i)), (1, .int p0), (3, .int (nI (sL i)))]) hx hb dJ1_indexOf_4cfef_14 rfl hl (by decide) rfl (fun ls hl => ?_)
    refine lv_iload_n hx hb dJ1_indexOf_4cfef_15 rfl (lv_at hl 3 rfl) ?_
    refine lv_aload_n hx hb dJ1_indexOf_4cfef_16 rfl (lv_at hl 1 rfl) ?_
    refine va_tlen (v := nI (sL i)) hx hb hT hS rfl dJ1_indexOf_4cfef_17 ?_
    refine va_mmin hx hb (by rw [hml]; exact hl.1.symm) hown (hts (.methodLink RJ1 38 Lib.Math.min.name) (List.mem_cons_of_mem _ (List.mem_append_left _ (List.mem_of_getElem? (i := 7) rfl)))) (hts (.static Lib.Math.min.name) (List.mem_cons_of_mem _ (List.mem_append_left _ (List.mem_of_getElem? (i := 8) rfl)))) (hts (.initialized "java/lang/Math") (List.mem_cons_of_mem _ (List.mem_append_left _ (List.mem_of_getElem? (i := 5) rfl)))) (hts (.code Lib.Math.min.name Lib.Math.min.code 2 (some .int)) (List.mem_cons_of_mem _ (List.mem_append_left _ (List.mem_of_getElem? (i := 9) rfl)))) (Nat.le_of_ble_eq_true rfl) (Nat.le_of_ble_eq_true rfl) (Nat.le_of_ble_eq_true rfl) (Nat.le_of_ble_eq_true rfl) dJ1_indexOf_4cfef_18 ?_
    refine lq_top (v := nI (sL i)) (ite_self _) ?_
    refine lv_istore_n (lv' := [(3, .int (nI (sL i))), (2, .int 0), (0, .ref (av i)), (1, .int p0)]) hx hb dJ1_indexOf_4cfef_21 rfl hl (by decide) rfl (fun ls hl => ?_)
    refine lv_iload_n hx hb dJ1_indexOf_4cfef_22 rfl (lv_at hl 1 rfl) ?_
    refine lv_iload_n hx hb dJ1_indexOf_4cfef_23 rfl (lv_at hl 0 rfl) ?_
    refine lv_icmp_lt (tgt := 29) hx hb dJ1_indexOf_4cfef_24 (by decide) (fun c_16 => ?_) (fun c_16 => ?_)
    · have hn_c_16 := q_lt 0 (sL i) c_16 rfl rfl (by omega) (by omega)
      refine lv_aload_n hx hb dJ1_indexOf_4cfef_29 rfl (lv_at hl 2 rfl) ?_
      refine lv_iload_n hx hb dJ1_indexOf_4cfef_30 rfl (lv_at hl 3 rfl) ?_
      refine lv_iload_n hx hb dJ1_indexOf_4cfef_31 rfl (lv_at hl 1 rfl) ?_
      refine lv_iload_n hx hb dJ1_indexOf_4cfef_32 rfl (lv_at hl 0 rfl) ?_
      have hPc := hP.sub (ws' := []) [] rfl
      have hDc := hD.sub (ws' := []) [] (by decide) rfl
      have hKc := hK.sub (tys' := []) [] rfl
      have hFc := va_free (wc := []) hD hS hA [] rfl
      refine va_calli (va_runS (As := [.ref (av i), .int p0, .int 0, .int (nI (sL i))]) (rest := []) ⟨hx, hb, hml, hown, hts⟩ (j_indexOfChar l dC dI ad av H.size i p0 (by omega)) (va_cwS 4 hts (gi_3 (List.mem_cons_of_mem _ (List.mem_append_left _ (List.mem_of_getElem? (i := 10) rfl))) (List.mem_cons_of_mem _ (List.mem_append_left _ (List.mem_of_getElem? (i := 11) rfl))) (List.mem_cons_of_mem _ (List.mem_append_left _ (List.mem_of_getElem? (i := 2) rfl))) (fun _ hh => (List.mem_cons_of_mem _ (List.mem_append_right _ (List.mem_append_right _ (List.mem_append_left _ hh))))) gd_j_indexOfChar) rfl rfl rfl (by decide +kernel) ⟨Nat.le_of_ble_eq_true rfl, Nat.le_of_ble_eq_true rfl⟩) ⟨pr_blind, pr_use hPc hKc hDc hFc hS hM⟩ rfl rfl hl.1 rfl (lv_room (Nat.le_of_ble_eq_true rfl)) dJ1_indexOf_4cfef_33 ⟨Nat.le_of_ble_eq_true rfl, Nat.le_of_ble_eq_true rfl⟩) hS (fun q _ h => hFc q h) hFc (fun r_17 u t H locs ht hvm hw hB hz1 hk1 hS => ?_)
      refine W.widen (k := 0) (n := 0) (Nat.le_of_ble_eq_true rfl) (Nat.le_of_ble_eq_true rfl) ?_
      subst hw
      obtain ⟨r_18, hre_19, hP1, hK1, hD1⟩ := hB
      refine lq_top (v := r_18) hre_19 ?_
      rw [ht] at hP1
      have hK1 := va_K.moved hvm.symm hK1
      obtain ⟨hP, hD⟩ := va_join (wr := []) (w1 := []) hP hD [] [] rfl rfl (by decide) (by decide) hk1 hFc hP1 hD1
      have hK := (hK.sub (tys' := []) [] rfl).app hK1
      have hP : va_P (dC, dI) vwCl [] H := hP
      have hD : va_D A [] := hD
      have hK : va_K (dC, dI) vwCl [] s := hK
      have hP9 := hP.sub (ws' := []) [] rfl
      have hD9 := hD.sub (ws' := []) [] (by decide) rfl
      have hK9 := hK.sub (tys' := []) [] rfl
      exact W.iret (v := r_18) hx hb hr (fun t ht hW => ⟨⟨r_18, r_18, rfl, rfl, ⟨r_18, rfl, by rw [ht]; exact hP9, va_K.moved hW.alike hK9, hD9⟩⟩, hS.F ht⟩) hS.2.2 dJ1_indexOf_4cfef_36
    · have hn_c_16 := q_nlt 0 (sL i) c_16 rfl rfl (by omega) (by omega)
      refine lv_iconst (v := (-1)) hx hb dJ1_indexOf_4cfef_27 (by decide) ?_
      have hP9 := hP.sub (ws' := []) [] rfl
      have hD9 := hD.sub (ws' := []) [] (by decide) rfl
      have hK9 := hK.sub (tys' := []) [] rfl
      exact W.iret (v := (-1)) hx hb hr (fun t ht hW => ⟨⟨(-1), (-1), rfl, rfl, ⟨(-1), rfl, by rw [ht]; exact hP9, va_K.moved hW.alike hK9, hD9⟩⟩, hS.F ht⟩) hS.2.2 dJ1_indexOf_4cfef_28
  · refine lq_top (v := 0) hre_14 ?_
    rw [ht] at hP1
    have hK1 := va_K.moved hvm.symm hK1
    obtain ⟨hP, hD⟩ := va_join (wr := []) (w1 := []) hP hD [] [] rfl rfl (by decide) (by decide) hk1 hFc hP1 hD1
    have hK := (hK.sub (tys' := []) [] rfl).app hK1
    have hP : va_P (dC, dI) vwCl [] H := hP
    have hD : va_D A [] := hD
    have hK : va_K (dC, dI) vwCl [] s := hK
    refine lv_if_ne (tgt := 9) hx hb dJ1_indexOf_4cfef_4 (by decide) (fun c_20 => absurd c_20 (fun z => z (by decide))) (fun c_20 => ?_)
    refine lv_iconst (v := (-1)) hx hb dJ1_indexOf_4cfef_7 (by decide) ?_
    have hP9 := hP.sub (ws' := []) [] rfl
    have hD9 := hD.sub (ws' := []) [] (by decide) rfl
    have hK9 := hK.sub (tys' := []) [] rfl
    exact W.iret (v := (-1)) hx hb hr (fun t ht hW => ⟨⟨(-1), (-1), rfl, rfl, ⟨(-1), rfl, by rw [ht]; exact hP9, va_K.moved hW.alike hK9, hD9⟩⟩, hS.F ht⟩) hS.2.2 dJ1_indexOf_4cfef_8
def wo_j_indexOf2 : List Cond := [.methodLink RJ0 492 yJ0_isLatin1_aae02, .instanceMethod yJ0_isLatin1_aae02, .selects RJ0 yJ0_isLatin1_aae02 yJ0_isLatin1_aae02, .initialized RJ0, .fieldLink RJ0 9 "java/lang/String" "value" "[B", .methodLink RJ0 505 yJ0_length_8abf5, .instanceMethod yJ0_length_8abf5, .selects RJ0 yJ0_length_8abf5 yJ0_length_8abf5, .methodLink RJ0 637 yJ1_indexOf_4cfef, .static yJ1_indexOf_4cfef, .initialized RJ1]
def wm_j_indexOf2 : List Cond := .code yJ0_indexOf_7cf53 cJ0_indexOf_7cf53 3 (some .int) :: (wo_j_indexOf2 ++ (wm_j_isLatin1 ++ (wm_j_length ++ (wm_j_indexOfB ++ ([] : List Cond)))))
theorem gd_j_indexOf2 : ∀ w ∈ wm_j_indexOf2, goodWord w = true := gd_c rfl (gd_a (by decide) (gd_a gd_j_isLatin1 (gd_a gd_j_length (gd_a gd_j_indexOfB gd_nil))))
set_option maxRecDepth 20000 in
theorem im_j_indexOf2 : ∀ w ∈ wm_j_indexOf2, w ∈ lw_tbl := im_c (in_r [.code yJ0_indexOf_7cf53 cJ0_indexOf_7cf53 3 (some .int)] [273] (by decide +kernel)) (in_app (in_r wo_j_indexOf2 [207, 208, 209, 74, 1758, 274, 275, 276, 282, 283, 75] (by decide +kernel)) (in_app im_j_isLatin1 (in_app im_j_length (in_app im_j_indexOfB im_nil))))
set_option maxHeartbeats 4000000 in
set_option maxRecDepth 100000 in
theorem j_indexOf2 (l : Launch) (dC : Nat → ClassId) (dI : Nat → Nat → Nat) (ad av : Nat → Nat) (sz : Nat) (i : Nat) (p0 : Int32) (hi : i < 9) : Met l yJ0_indexOf_7cf53 wm_j_indexOf2 ({ frames := 4, cells := 0, slots := 0, locals := 120 }) (pr_ ad av (dC, dI) sz [.ref (ad i), .int p0, .int 0] [] []) (va_Qi (fun (r u : Int32) => u = r) (fun (r : Int32) (t : State) => (∃ (r9 : Int32), r = r9 ∧ po_ (dC, dI) (va_A [] sz) [] [] t)) (va_A [] sz)) 0 0 (va_A [] sz) := by
  refine Met.ofW (cc := cJ0_indexOf_7cf53) (maxL := 3) (ret := (some .int)) (by decide) rfl ?_
  intro p e s m args below meth c s₁ B hml hv
  obtain ⟨rfl, hsz, hP, hK, hD0, hM⟩ := hv
  have hx := B.exec
  have hb := B.bytes
  have hr := B.returns
  have hts := atoms_spec (ws := wm_j_indexOf2) B.pre
  have hown : s.vm.findClass RJ0 = some m.cls := findClass_of_methodNamed B.named
  have hlocks := B.notSynchronized
  subst hsz
  have hD := hD0.self (sz := s.heap.size)
  generalize hAe : va_A [] s.heap.size = A at hD hM ⊢
  have hA : ∀ q : Nat, s.heap.size ≤ q → A q := fun q h => by rw [← hAe]; exact Or.inr h
  have hS : va_S A s.heap s.heap [] := va_S.rf
  have hP : va_P (dC, dI) vwCl [] s.heap := hP
  have hl := lv_entry ([.ref (ad i), .int p0, .int 0]) (n := 3) (Nat.le_of_ble_eq_true rfl)
  rw [lg_entry_eq]
  generalize (lg_sl ([.ref (ad i), .int p0, .int 0]) ++ List.replicate (3 - (lg_sl ([.ref (ad i), .int p0, .int 0])).length) Slot.unset).toArray = ls at hl ⊢
  have hl : lv_has ls 3 [(0, .ref (ad i)), (1, .int p0), (2, .int 0)] := hl
  have hStr := st_at hM i hi
  have hsL := sL_le i
  obtain ⟨fS, hT⟩ := hStr.2.2.2
  refine lv_aload_n hx hb dJ0_indexOf_7cf53_0 rfl (lv_at hl 0 rfl) ?_
  have hPc := hP.sub (ws' := []) [] rfl
  have hDc := hD.sub (ws' := []) [] (by decide) rfl
  have hKc := hK.sub (tys' := []) [] rfl
  have hFc := va_free (wc := []) hD hS hA [] rfl
  refine va_calli (va_runV (As := []) (rest := []) ⟨hx, hb, hml, hown, hts⟩ (j_isLatin1 l dC dI ad av s.heap.size i (by omega)) (cwV 0 hts (gi_4 (List.mem_cons_of_mem _ (List.mem_append_left _ (List.mem_of_getElem? (i := 0) rfl))) (List.mem_cons_of_mem _ (List.mem_append_left _ (List.mem_of_getElem? (i := 1) rfl))) (List.mem_cons_of_mem _ (List.mem_append_left _ (List.mem_of_getElem? (i := 2) rfl))) (List.mem_cons_of_mem _ (List.mem_append_left _ (List.mem_of_getElem? (i := 3) rfl))) (fun _ hh => (List.mem_cons_of_mem _ (List.mem_append_right _ (List.mem_append_left _ hh)))) gd_j_isLatin1) rfl rfl rfl (by decide +kernel) ⟨Nat.le_of_ble_eq_true rfl, Nat.le_of_ble_eq_true rfl⟩) ⟨pr_blind, st_recv hStr hS, pr_use hPc hKc hDc hFc hS hM⟩ rfl rfl hl.1 rfl (lv_room (Nat.le_of_ble_eq_true rfl)) dJ0_indexOf_7cf53_1 ⟨Nat.le_of_ble_eq_true rfl, Nat.le_of_ble_eq_true rfl⟩) hS (fun q _ h => hFc q h) hFc (fun r_21 u t H locs ht hvm hw hB hz1 hk1 hS => ?_)
  refine W.widen (k := 0) (n := 0) (Nat.le_of_ble_eq_true rfl) (Nat.le_of_ble_eq_true rfl) ?_
  subst hw
  obtain ⟨hre_22, hP1, hK1, hD1⟩ := hB
  refine lq_top (v := 1) hre_22 ?_
  rw [ht] at hP1
  have hK1 := va_K.moved hvm.symm hK1
  obtain ⟨hP, hD⟩ := va_join (wr := []) (w1 := []) hP hD [] [] rfl rfl (by decide) (by decide) hk1 hFc hP1 hD1
  have hK := (hK.sub (tys' := []) [] rfl).app hK1
  have hP : va_P (dC, dI) vwCl [] H := hP
  have hD : va_D A [] := hD
  have hK : va_K (dC, dI) vwCl [] s := hK
  refine lv_if_eq (tgt := 23) hx hb dJ0_indexOf_7cf53_4 (by decide) (fun c_23 => absurd c_23 (by decide)) (fun c_23 => ?_)
  refine lv_aload_n hx hb dJ0_indexOf_7cf53_7 rfl (lv_at hl 0 rfl) ?_
  refine vk_getf hx hb hStr.2.2.1 hS hown (hts (.fieldLink RJ0 9 "java/lang/String" "value" "[B") (List.mem_cons_of_mem _ (List.mem_append_left _ (List.mem_of_getElem? (i := 4) rfl)))) (fun _ h9 => h9) dJ0_indexOf_7cf53_8 ?_
  refine lv_iload_n hx hb dJ0_indexOf_7cf53_11 rfl (lv_at hl 1 rfl) ?_
  refine lv_iload_n hx hb dJ0_indexOf_7cf53_12 rfl (lv_at hl 2 rfl) ?_
  refine lv_aload_n hx hb dJ0_indexOf_7cf53_13 rfl (lv_at hl 0 rfl) ?_
  have hPc := hP.sub (ws' := []) [] rfl
  have hDc := hD.sub (ws' := []) [] (by decide) rfl
  have hKc := hK.sub (tys' := []) [] rfl
  have hFc := va_free (wc := []) hD hS hA [] rfl
  refine va_calli (va_runV (As := []) (rest := [.int 0, .int p0, .ref (av i)]) ⟨hx, hb, hml, hown, hts⟩ (j_length l dC dI ad av H.size i (by omega)) (cwV 0 hts (gi_4 (List.mem_cons_of_mem _ (List.mem_append_left _ (List.mem_of_getElem? (i := 5) rfl))) (List.mem_cons_of_mem _ (List.mem_append_left _ (List.mem_of_getElem? (i := 6) rfl))) (List.mem_cons_of_mem _ (List.mem_append_left _ (List.mem_of_getElem? (i := 7) rfl))) (List.mem_cons_of_mem _ (List.mem_append_left _ (List.mem_of_getElem? (i := 3) rfl))) (fun _ hh => (List.mem_cons_of_mem _ (List.mem_append_right _ (List.mem_append_right _ (List.mem_append_left _ hh))))) gd_j_length) rfl rfl rfl (by decide +kernel) ⟨Nat.le_of_ble_eq_true rfl, Nat.le_of_ble_eq_true rfl⟩) ⟨pr_blind, st_recv hStr hS, pr_use hPc hKc hDc hFc hS hM⟩ rfl rfl hl.1 rfl (lv_room (Nat.le_of_ble_eq_true rfl)) dJ0_indexOf_7cf53_14 ⟨Nat.le_of_ble_eq_true rfl, Nat.le_of_ble_eq_true rfl⟩) hS (fun q _ h => hFc q h) hFc (fun r_24 u t H locs ht hvm hw hB hz1 hk1 hS => ?_)
  refine W.widen (k := 0) (n := 0) (Nat.le_of_ble_eq_true rfl) (Nat.le_of_ble_eq_true rfl) ?_
  subst hw
  obtain ⟨hre_25, hP1, hK1, hD1⟩ := hB
  refine lq_top (v := nI (sL i)) hre_25 ?_
  rw [ht] at hP1
  have hK1 := va_K.moved hvm.symm hK1
  obtain ⟨hP, hD⟩ := va_join (wr := []) (w1 := []) hP hD [] [] rfl rfl (by decide) (by decide) hk1 hFc hP1 hD1
  have hK := (hK.sub (tys' := []) [] rfl).app hK1
  have hP : va_P (dC, dI) vwCl [] H := hP
  have hD : va_D A [] := hD
  have hK : va_K (dC, dI) vwCl [] s := hK
  have hPc := hP.sub (ws' := []) [] rfl
  have hDc := hD.sub (ws' := []) [] (by decide) rfl
  have hKc := hK.sub (tys' := []) [] rfl
  have hFc := va_free (wc := []) hD hS hA [] rfl
  refine va_calli (va_runS (As := [.ref (av i), .int p0, .int 0, .int (nI (sL i))]) (rest := []) ⟨hx, hb, hml, hown, hts⟩ (j_indexOfB l dC dI ad av H.size i p0 (by omega)) (va_cwS 4 hts (gi_3 (List.mem_cons_of_mem _ (List.mem_append_left _ (List.mem_of_getElem? (i := 8) rfl))) (List.mem_cons_of_mem _ (List.mem_append_left _ (List.mem_of_getElem? (i := 9) rfl))) (List.mem_cons_of_mem _ (List.mem_append_left _ (List.mem_of_getElem? (i := 10) rfl))) (fun _ hh => (List.mem_cons_of_mem _ (List.mem_append_right _ (List.mem_append_right _ (List.mem_append_right _ (List.mem_append_left _ hh)))))) gd_j_indexOfB) rfl rfl rfl (by decide +kernel) ⟨Nat.le_of_ble_eq_true rfl, Nat.le_of_ble_eq_true rfl⟩) ⟨pr_blind, pr_use hPc hKc hDc hFc hS hM⟩ rfl rfl hl.1 rfl (lv_room (Nat.le_of_ble_eq_true rfl)) dJ0_indexOf_7cf53_17 ⟨Nat.le_of_ble_eq_true rfl, Nat.le_of_ble_eq_true rfl⟩) hS (fun q _ h => hFc q h) hFc (fun r_26 u t H locs ht hvm hw hB hz1 hk1 hS => ?_)
  refine W.widen (k := 0) (n := 0) (Nat.le_of_ble_eq_true rfl) (Nat.le_of_ble_eq_true rfl) ?_
  subst hw
  obtain ⟨r_27, hre_28, hP1, hK1, hD1⟩ := hB
  refine lq_top (v := r_27) hre_28 ?_
  rw [ht] at hP1
  have hK1 := va_K.moved hvm.symm hK1
  obtain ⟨hP, hD⟩ := va_join (wr := []) (w1 := []) hP hD [] [] rfl rfl (by decide) (by decide) hk1 hFc hP1 hD1
  have hK := (hK.sub (tys' := []) [] rfl).app hK1
  have hP : va_P (dC, dI) vwCl [] H := hP
  have hD : va_D A [] := hD
  have hK : va_K (dC, dI) vwCl [] s := hK
  refine lv_goto (tgt := 36) hx hb dJ0_indexOf_7cf53_20 (by decide) ?_
  have hP9 := hP.sub (ws' := []) [] rfl
  have hD9 := hD.sub (ws' := []) [] (by decide) rfl
  have hK9 := hK.sub (tys' := []) [] rfl
  exact W.iret (v := r_27) hx hb hr (fun t ht hW => ⟨⟨r_27, r_27, rfl, rfl, ⟨r_27, rfl, by rw [ht]; exact hP9, va_K.moved hW.alike hK9, hD9⟩⟩, hS.F ht⟩) hS.2.2 dJ0_indexOf_7cf53_36
def wo_j_indexOf1 : List Cond := [.methodLink RJ0 633 yJ0_indexOf_7cf53, .instanceMethod yJ0_indexOf_7cf53, .selects RJ0 yJ0_indexOf_7cf53 yJ0_indexOf_7cf53, .initialized RJ0]
def wm_j_indexOf1 : List Cond := .code yJ0_indexOf_0f7a4 cJ0_indexOf_0f7a4 2 (some .int) :: (wo_j_indexOf1 ++ (wm_j_indexOf2 ++ ([] : List Cond)))
theorem gd_j_indexOf1 : ∀ w ∈ wm_j_indexOf1, goodWord w = true := gd_c rfl (gd_a (by decide) (gd_a gd_j_indexOf2 gd_nil))
set_option maxRecDepth 20000 in
theorem im_j_indexOf1 : ∀ w ∈ wm_j_indexOf1, w ∈ lw_tbl := im_c (in_r [.code yJ0_indexOf_0f7a4 cJ0_indexOf_0f7a4 2 (some .int)] [269] (by decide +kernel)) (in_app (in_r wo_j_indexOf1 [270, 271, 272, 74] (by decide +kernel)) (in_app im_j_indexOf2 im_nil))
set_option maxHeartbeats 4000000 in
set_option maxRecDepth 100000 in
theorem j_indexOf1 (l : Launch) (dC : Nat → ClassId) (dI : Nat → Nat → Nat) (ad av : Nat → Nat) (sz : Nat) (i : Nat) (p0 : Int32) (hi : i < 9) : Met l yJ0_indexOf_0f7a4 wm_j_indexOf1 ({ frames := 5, cells := 0, slots := 0, locals := 160 }) (pr_ ad av (dC, dI) sz [.ref (ad i), .int p0] [] []) (va_Qi (fun (r u : Int32) => u = r) (fun (r : Int32) (t : State) => (∃ (r9 : Int32), r = r9 ∧ po_ (dC, dI) (va_A [] sz) [] [] t)) (va_A [] sz)) 0 0 (va_A [] sz) := by
  refine Met.ofW (cc := cJ0_indexOf_0f7a4) (maxL := 2) (ret := (some .int)) (by decide) rfl ?_
  intro p e s m args below meth c s₁ B hml hv
  obtain ⟨rfl, hsz, hP, hK, hD0, hM⟩ := hv
  have hx := B.exec
  have hb := B.bytes
  have hr := B.returns
  have hts := atoms_spec (ws := wm_j_indexOf1) B.pre
  have hown : s.vm.findClass RJ0 = some m.cls := findClass_of_methodNamed B.named
  have hlocks := B.notSynchronized
  subst hsz
  have hD := hD0.self (sz := s.heap.size)
  generalize hAe : va_A [] s.heap.size = A at hD hM ⊢
  have hA : ∀ q : Nat, s.heap.size ≤ q → A q := fun q h => by rw [← hAe]; exact Or.inr h
  have hS : va_S A s.heap s.heap [] := va_S.rf
  have hP : va_P (dC, dI) vwCl [] s.heap := hP
  have hl := lv_entry ([.ref (ad i), .int p0]) (n := 2) (Nat.le_of_ble_eq_true rfl)
  rw [lg_entry_eq]
  generalize (lg_sl ([.ref (ad i), .int p0]) ++ List.replicate (2 - (lg_sl ([.ref (ad i), .int p0])).length) Slot.unset).toArray = ls at hl ⊢
  have hl : lv_has ls 2 [(0, .ref (ad i)), (1, .int p0)] := hl
  have hStr := st_at hM i hi
  have hsL := sL_le i
  obtain ⟨fS, hT⟩ := hStr.2.2.2
  refine lv_aload_n hx hb dJ0_indexOf_0f7a4_0 rfl (lv_at hl 0 rfl) ?_
  refine lv_iload_n hx hb dJ0_indexOf_0f7a4_1 rfl (lv_at hl 1 rfl) ?_
  refine lv_iconst (v := 0) hx hb dJ0_indexOf_0f7a4_2 (by decide) ?_
  have hPc := hP.sub (ws' := []) [] rfl
  have hDc := hD.sub (ws' := []) [] (by decide) rfl
  have hKc := hK.sub (tys' := []) [] rfl
  have hFc := va_free (wc := []) hD hS hA [] rfl
  refine va_calli (va_runV (As := [.int p0, .int 0]) (rest := []) ⟨hx, hb, hml, hown, hts⟩ (j_indexOf2 l dC dI ad av s.heap.size i p0 (by omega)) (cwV 2 hts (gi_4 (List.mem_cons_of_mem _ (List.mem_append_left _ (List.mem_of_getElem? (i := 0) rfl))) (List.mem_cons_of_mem _ (List.mem_append_left _ (List.mem_of_getElem? (i := 1) rfl))) (List.mem_cons_of_mem _ (List.mem_append_left _ (List.mem_of_getElem? (i := 2) rfl))) (List.mem_cons_of_mem _ (List.mem_append_left _ (List.mem_of_getElem? (i := 3) rfl))) (fun _ hh => (List.mem_cons_of_mem _ (List.mem_append_right _ (List.mem_append_left _ hh)))) gd_j_indexOf2) rfl rfl rfl (by decide +kernel) ⟨Nat.le_of_ble_eq_true rfl, Nat.le_of_ble_eq_true rfl⟩) ⟨pr_blind, st_recv hStr hS, pr_use hPc hKc hDc hFc hS hM⟩ rfl rfl hl.1 rfl (lv_room (Nat.le_of_ble_eq_true rfl)) dJ0_indexOf_0f7a4_3 ⟨Nat.le_of_ble_eq_true rfl, Nat.le_of_ble_eq_true rfl⟩) hS (fun q _ h => hFc q h) hFc (fun r_29 u t H locs ht hvm hw hB hz1 hk1 hS => ?_)
  refine W.widen (k := 0) (n := 0) (Nat.le_of_ble_eq_true rfl) (Nat.le_of_ble_eq_true rfl) ?_
  subst hw
  obtain ⟨r_30, hre_31, hP1, hK1, hD1⟩ := hB
  refine lq_top (v := r_30) hre_31 ?_
  rw [ht] at hP1
  have hK1 := va_K.moved hvm.symm hK1
  obtain ⟨hP, hD⟩ := va_join (wr := []) (w1 := []) hP hD [] [] rfl rfl (by decide) (by decide) hk1 hFc hP1 hD1
  have hK := (hK.sub (tys' := []) [] rfl).app hK1
  have hP : va_P (dC, dI) vwCl [] H := hP
  have hD : va_D A [] := hD
  have hK : va_K (dC, dI) vwCl [] s := hK
  have hP9 := hP.sub (ws' := []) [] rfl
  have hD9 := hD.sub (ws' := []) [] (by decide) rfl
  have hK9 := hK.sub (tys' := []) [] rfl
  exact W.iret (v := r_30) hx hb hr (fun t ht hW => ⟨⟨r_30, r_30, rfl, rfl, ⟨r_30, rfl, by rw [ht]; exact hP9, va_K.moved hW.alike hK9, hD9⟩⟩, hS.F ht⟩) hS.2.2 dJ0_indexOf_0f7a4_6
def wo_j_inflate : List Cond := []
def wm_j_inflate : List Cond := .code yJ1_inflate_03870 cJ1_inflate_03870 6 none :: (wo_j_inflate ++ ([] : List Cond))
theorem gd_j_inflate : ∀ w ∈ wm_j_inflate, goodWord w = true := gd_c rfl (gd_a (by decide) gd_nil)
set_option maxRecDepth 20000 in
theorem im_j_inflate : ∀ w ∈ wm_j_inflate, w ∈ lw_tbl := im_c (in_r [.code yJ1_inflate_03870 cJ1_inflate_03870 6 none] [218] (by decide +kernel)) (in_app (in_r wo_j_inflate [] (by decide +kernel)) im_nil)
set_option maxHeartbeats 4000000 in
set_option maxRecDepth 100000 in
theorem j_inflate (l : Launch) (dC : Nat → ClassId) (dI : Nat → Nat → Nat) (ad av : Nat → Nat) (sz : Nat) (i : Nat) (q0 : Nat) (k0 : ClassId) (f0 : Nat → Int32) (hi : i < 9) : Met l yJ1_inflate_03870 wm_j_inflate ({ frames := 0, cells := 0, slots := 0, locals := 0 }) (pr_ ad av (dC, dI) sz [.ref (av i), .int 0, .ref q0, .int 0, .int (nI (sL i))] [(q0, .inl (k0, sL i, .inl f0))] [(k0, .char)]) (va_Qv (fun (_ : Unit) => True) (fun (_ : Unit) (t : State) => (∃ (f1 : Nat → Int32), po_ (dC, dI) (va_A [(q0, .inl (k0, sL i, .inl f0))] sz) [(q0, .inl (k0, sL i, .inl f1))] [(k0, .char)] t)) (va_A [(q0, .inl (k0, sL i, .inl f0))] sz)) 0 0 (va_A [(q0, .inl (k0, sL i, .inl f0))] sz) := by
  refine Met.ofW (cc := cJ1_inflate_03870) (maxL := 6) (ret := none) (by decide) rfl ?_
  intro p e s m args below meth c s₁ B hml hv
  obtain ⟨rfl, hsz, hP, hK, hD0, hM⟩ := hv
  have hx := B.exec
  have hb := B.bytes
  have hr := B.returns
  have hts := atoms_spec (ws := wm_j_inflate) B.pre
  have hown : s.vm.findClass RJ1 = some m.cls := findClass_of_methodNamed B.named
  have hlocks := B.notSynchronized
  subst hsz
  have hD := hD0.self (sz := s.heap.size)
  generalize hAe : va_A [(q0, .inl (k0, sL i, .inl f0))] s.heap.size = A at hD hM ⊢
  have hA : ∀ q : Nat, s.heap.size ≤ q → A q := fun q h => by rw [← hAe]; exact Or.inr h
  have hS : va_S A s.heap s.heap [] := va_S.rf
  have hP : va_P (dC, dI) vwCl [(q0, .inl (k0, sL i, .inl f0))] s.heap := hP
  have hl := lv_entry ([.ref (av i), .int 0, .ref q0, .int 0, .int (nI (sL i))]) (n := 6) (Nat.le_of_ble_eq_true rfl)
  rw [lg_entry_eq]
  generalize (lg_sl ([.ref (av i), .int 0, .ref q0, .int 0, .int (nI (sL i))]) ++ List.replicate (6 - (lg_sl ([.ref (av i), .int 0, .ref q0, .int 0, .int (nI (sL i))])).length) Slot.unset).toArray = ls at hl ⊢
  have hl : lv_has ls 6 [(0, .ref (av i)), (1, .int 0), (2, .ref q0), (3, .int 0), (4, .int (nI (sL i)))] := hl
  have hStr := st_at hM i hi
  have hsL := sL_le i
  obtain ⟨fS, hT⟩ := hStr.2.2.2
  refine lv_iconst (v := 0) hx hb dJ1_inflate_03870_0 (by decide) ?_
  refine lv_istore (lv' := [(5, .int 0), (0, .ref (av i)), (1, .int 0), (2, .ref q0), (3, .int 0), (4, .int (nI (sL i)))]) hx hb dJ1_inflate_03870_1 hl (by decide) rfl (fun ls hl => ?_)
  have loop_3 : ∀ (n : Nat) (j : Nat) (fj : Nat → Int32) (H : Heap) (locs : List Loc) (ls : Array Slot), sL i - j < n → j ≤ sL i → va_K (dC, dI) vwCl [(k0, .char)] s → va_P (dC, dI) vwCl [(q0, .inl (k0, sL i, .inl fj))] H → va_D A [(q0, .inl (k0, sL i, .inl fj))] → va_S A s.heap H locs → lv_has ls 6 [(5, .int (nI j)), (0, .ref (av i)), (1, .int (nI j)), (2, .ref q0), (3, .int (nI j)), (4, .int (nI (sL i)))] → W p l e (headSpec wm_j_inflate ({ frames := 0, cells := 0, slots := 0, locals := 0 })).room s m ([.ref (av i), .int 0, .ref q0, .int 0, .int (nI (sL i))] : List Value).toArray below meth c H locs 0 0 (MQ below (va_Qv (fun (_ : Unit) => True) (fun (_ : Unit) (t : State) => (∃ (f1 : Nat → Int32), po_ (dC, dI) A [(q0, .inl (k0, sL i, .inl f1))] [(k0, .char)] t)) A) ([.ref (av i), .int 0, .ref q0, .int 0, .int (nI (sL i))] : List Value).toArray s 0 0 A) (F0 m 3 ls []) := by
    intro n
    induction n with
    | zero => intro j fj H locs ls hlt; exact absurd hlt (Nat.not_lt_zero _)
    | succ n ih_3 =>
      intro j fj H locs ls hlt hj hK hP hD hS hl
      refine lv_iload hx hb dJ1_inflate_03870_3 (lv_at hl 0 rfl) ?_
      refine lv_iload hx hb dJ1_inflate_03870_5 (lv_at hl 5 rfl) ?_
      refine lv_icmp_ge (tgt := 33) hx hb dJ1_inflate_03870_7 (by decide) (fun c_32 => ?_) (fun c_32 => ?_)
      · have hn_c_32 := q_le (sL i) j c_32 rfl rfl (by omega) (by omega)
        have hP9 := hP.sub (ws' := [(q0, .inl (k0, sL i, .inl fj))]) [0] rfl
        have hD9 := hD.sub (ws' := [(q0, .inl (k0, sL i, .inl fj))]) [0] (by decide) rfl
        have hK9 := hK.sub (tys' := [(k0, .char)]) [0] rfl
        exact W.vret hx hb hr (fun t ht hW => ⟨⟨(), rfl, trivial, ⟨fj, by rw [ht]; exact hP9, va_K.moved hW.alike hK9, hD9⟩⟩, hS.F ht⟩) hS.2.2 dJ1_inflate_03870_33
      · have hn_c_32 := q_nle (sL i) j c_32 rfl rfl (by omega) (by omega)
        refine lv_aload_n hx hb dJ1_inflate_03870_10 rfl (lv_at hl 3 rfl) ?_
        refine lv_iload_n hx hb dJ1_inflate_03870_11 rfl (lv_at hl 4 rfl) ?_
        refine lv_iinc (v := nI (j + 1)) (lv' := [(3, .int (nI (j + 1))), (5, .int (nI j)), (0, .ref (av i)), (1, .int (nI j)), (2, .ref q0), (4, .int (nI (sL i)))]) hx hb dJ1_inflate_03870_12 hl (k := 4) rfl (nI_1 j) (by decide) rfl (fun ls hl => ?_)
        refine lv_aload_n hx hb dJ1_inflate_03870_15 rfl (lv_at hl 2 rfl) ?_
        refine lv_iload_n hx hb dJ1_inflate_03870_16 rfl (lv_at hl 3 rfl) ?_
        refine lv_iinc (v := nI (j + 1)) (lv' := [(1, .int (nI (j + 1))), (3, .int (nI (j + 1))), (5, .int (nI j)), (0, .ref (av i)), (2, .ref q0), (4, .int (nI (sL i)))]) hx hb dJ1_inflate_03870_17 hl (k := 3) rfl (nI_1 j) (by decide) rfl (fun ls hl => ?_)
        refine va_tb hx hb hT hS (vp_in_nI (n := j) (by omega) (by omega)) rfl dJ1_inflate_03870_20 ?_
        refine lv_topi (fun x_33 ex_33 => ?_)
        refine lv_sipush (v := 255) hx hb dJ1_inflate_03870_21 (by decide) ?_
        refine lv_iand hx hb dJ1_inflate_03870_24 ?_
        refine lv_topi (fun x_34 ex_34 => ?_)
        refine lv_i2c hx hb dJ1_inflate_03870_25 rfl ?_
        refine lv_topi (fun x_35 ex_35 => ?_)
        refine va_cast hx hb hK hP hD hS 0 0 rfl rfl (vp_in_nI (n := j) (by omega) (by omega)) dJ1_inflate_03870_26 (fun H locs hP hD hS => ?_)
        obtain ⟨f_36, ef_36⟩ : ∃ y : Nat → Int32, y = upd fj (nI j).toNatClampNeg (vp_nar .char x_35) := ⟨_, rfl⟩
        have hP : va_P (dC, dI) vwCl [(q0, .inl (k0, sL i, .inl f_36))] H := by rw [ef_36]; exact hP
        have hD : va_D A [(q0, .inl (k0, sL i, .inl f_36))] := by rw [ef_36]; exact hD
        refine lv_iinc (v := nI (j + 1)) (lv' := [(5, .int (nI (j + 1))), (1, .int (nI (j + 1))), (3, .int (nI (j + 1))), (0, .ref (av i)), (2, .ref q0), (4, .int (nI (sL i)))]) hx hb dJ1_inflate_03870_27 hl (k := 2) rfl (nI_1 j) (by decide) rfl (fun ls hl => ?_)
        refine lv_goto (tgt := 3) hx hb dJ1_inflate_03870_30 (by decide) ?_
        exact ih_3  (j + 1) f_36 H _ ls (by omega) (by omega) (hK.sub (tys' := [(k0, .char)]) [0] rfl) (hP.sub (ws' := [(q0, .inl (k0, sL i, .inl f_36))]) [0] rfl) (hD.sub (ws' := [(q0, .inl (k0, sL i, .inl f_36))]) [0] (by decide) rfl) hS (lv_sub hl [0, 3, 1, 4, 2, 5] rfl)
  exact loop_3 ((sL i - 0) + 1) 0 f0 s.heap _ ls (by omega) (by omega) (hK.sub (tys' := [(k0, .char)]) [0] rfl) (hP.sub (ws' := [(q0, .inl (k0, sL i, .inl f0))]) [0] rfl) (hD.sub (ws' := [(q0, .inl (k0, sL i, .inl f0))]) [0] (by decide) rfl) hS (lv_sub hl [0, 1, 2, 3, 4, 5] rfl)
def wo_j_toChars : List Cond := [.arrayClass .char, .methodLink RJ1 13 yJ1_inflate_03870, .static yJ1_inflate_03870, .initialized RJ1]
def wm_j_toChars : List Cond := .code yJ1_toChars_9d188 cJ1_toChars_9d188 2 (some (.array .char)) :: (wo_j_toChars ++ (wm_j_inflate ++ ([] : List Cond)))
theorem gd_j_toChars : ∀ w ∈ wm_j_toChars, goodWord w = true := gd_c rfl (gd_a (by decide) (gd_a gd_j_inflate gd_nil))
set_option maxRecDepth 20000 in
theorem im_j_toChars : ∀ w ∈ wm_j_toChars, w ∈ lw_tbl := im_c (in_r [.code yJ1_toChars_9d188 cJ1_toChars_9d188 2 (some (.array .char))] [215] (by decide +kernel)) (in_app (in_r wo_j_toChars [195, 216, 217, 75] (by decide +kernel)) (in_app im_j_inflate im_nil))
set_option maxHeartbeats 4000000 in
set_option maxRecDepth 100000 in
theorem j_toChars (l : Launch) (dC : Nat → ClassId) (dI : Nat → Nat → Nat) (ad av : Nat → Nat) (sz : Nat) (i : Nat) (hi : i < 9) : Met l yJ1_toChars_9d188 wm_j_toChars ({ frames := 2, cells := 1, slots := 23, locals := 60 }) (pr_ ad av (dC, dI) sz [.ref (av i)] [] []) (va_Qr (fun (_ : Unit) => True) (fun (_ : Unit) (a : Nat) (t : State) => (∃ (q1 : Nat), ∃ (k1 : ClassId), ∃ (f1 : Nat → Int32), a = q1 ∧ po_ (dC, dI) (va_A [] sz) [(q1, .inl (k1, sL i, .inl f1))] [(k1, .char)] t)) (va_A [] sz)) 1 23 (va_A [] sz) := by
  refine Met.ofW (cc := cJ1_toChars_9d188) (maxL := 2) (ret := (some (.array .char))) (by decide) rfl ?_
  intro p e s m args below meth c s₁ B hml hv
  obtain ⟨rfl, hsz, hP, hK, hD0, hM⟩ := hv
  have hx := B.exec
  have hb := B.bytes
  have hr := B.returns
  have hts := atoms_spec (ws := wm_j_toChars) B.pre
  have hown : s.vm.findClass RJ1 = some m.cls := findClass_of_methodNamed B.named
  have hlocks := B.notSynchronized
  subst hsz
  have hD := hD0.self (sz := s.heap.size)
  generalize hAe : va_A [] s.heap.size = A at hD hM ⊢
  have hA : ∀ q : Nat, s.heap.size ≤ q → A q := fun q h => by rw [← hAe]; exact Or.inr h
  have hS : va_S A s.heap s.heap [] := va_S.rf
  have hP : va_P (dC, dI) vwCl [] s.heap := hP
  have hl := lv_entry ([.ref (av i)]) (n := 2) (Nat.le_of_ble_eq_true rfl)
  rw [lg_entry_eq]
  generalize (lg_sl ([.ref (av i)]) ++ List.replicate (2 - (lg_sl ([.ref (av i)])).length) Slot.unset).toArray = ls at hl ⊢
  have hl : lv_has ls 2 [(0, .ref (av i))] := hl
  have hStr := st_at hM i hi
  have hsL := sL_le i
  obtain ⟨fS, hT⟩ := hStr.2.2.2
  refine lv_aload_n hx hb dJ1_toChars_9d188_0 rfl (lv_at hl 0 rfl) ?_
  refine va_tlen (v := nI (sL i)) hx hb hT hS rfl dJ1_toChars_9d188_1 ?_
  obtain ⟨nS_39, hnS_39⟩ : ∃ n : Nat, n = sL i := ⟨_, rfl⟩
  refine lq_top (v := nI nS_39) (by rw [hnS_39]) ?_
  refine va_newa (atype := .char) hx hb (hts (.arrayClass .char) (List.mem_cons_of_mem _ (List.mem_append_left _ (List.mem_of_getElem? (i := 0) rfl)))) (ty := .char) rfl hK hP hD hS hA (N' := nS_39) (a0 := (nS_39, .inl (fun _ => 0))) (fun _ => rfl) (nI_pos (by omega)) (nI_clamp (by omega)) (by show nS_39 * _ ≤ _; simp only [componentBytes]; omega) (Nat.le_of_ble_eq_true rfl) (by show 0 + nS_39 ≤ 23; omega) dJ1_toChars_9d188_2 (fun q_37 cA_38 H hK hP hD hS => ?_)
  refine W.widen (k := 1) (n := 23) (Nat.le_of_ble_eq_true rfl) (by omega) ?_
  have hP : va_P (dC, dI) vwCl [(q_37, .inl (cA_38, nS_39, .inl (fun _ => 0)))] H := hP
  have hD : va_D A [(q_37, .inl (cA_38, nS_39, .inl (fun _ => 0)))] := hD
  have hK : va_K (dC, dI) vwCl [(cA_38, .char)] s := hK
  subst hnS_39
  refine lv_astore_n (lv' := [(1, .ref q_37), (0, .ref (av i))]) hx hb dJ1_toChars_9d188_4 rfl hl (by decide) rfl (fun ls hl => ?_)
  refine lv_aload_n hx hb dJ1_toChars_9d188_5 rfl (lv_at hl 1 rfl) ?_
  refine lv_iconst (v := 0) hx hb dJ1_toChars_9d188_6 (by decide) ?_
  refine lv_aload_n hx hb dJ1_toChars_9d188_7 rfl (lv_at hl 0 rfl) ?_
  refine lv_iconst (v := 0) hx hb dJ1_toChars_9d188_8 (by decide) ?_
  refine lv_aload_n hx hb dJ1_toChars_9d188_9 rfl (lv_at hl 1 rfl) ?_
  refine va_tlen (v := nI (sL i)) hx hb hT hS rfl dJ1_toChars_9d188_10 ?_
  have hPc := hP.sub (ws' := [(q_37, .inl (cA_38, sL i, .inl (fun _ => 0)))]) [0] rfl
  have hDc := hD.sub (ws' := [(q_37, .inl (cA_38, sL i, .inl (fun _ => 0)))]) [0] (by decide) rfl
  have hKc := hK.sub (tys' := [(cA_38, .char)]) [0] rfl
  have hFc := va_free (wc := [(q_37, .inl (cA_38, sL i, .inl (fun _ => 0)))]) hD hS hA [0] rfl
  refine va_callv (va_runS (As := [.ref (av i), .int 0, .ref q_37, .int 0, .int (nI (sL i))]) (rest := []) ⟨hx, hb, hml, hown, hts⟩ (j_inflate l dC dI ad av H.size i q_37 cA_38 (fun _ => 0) (by omega)) (va_cwS 5 hts (gi_3 (List.mem_cons_of_mem _ (List.mem_append_left _ (List.mem_of_getElem? (i := 1) rfl))) (List.mem_cons_of_mem _ (List.mem_append_left _ (List.mem_of_getElem? (i := 2) rfl))) (List.mem_cons_of_mem _ (List.mem_append_left _ (List.mem_of_getElem? (i := 3) rfl))) (fun _ hh => (List.mem_cons_of_mem _ (List.mem_append_right _ (List.mem_append_left _ hh)))) gd_j_inflate) rfl rfl rfl (by decide +kernel) ⟨Nat.le_of_ble_eq_true rfl, Nat.le_of_ble_eq_true rfl⟩) ⟨pr_blind, pr_use hPc hKc hDc hFc hS hM⟩ rfl rfl hl.1 rfl (lv_room (Nat.le_of_ble_eq_true rfl)) dJ1_toChars_9d188_11 ⟨Nat.le_of_ble_eq_true rfl, Nat.le_of_ble_eq_true rfl⟩) hS (fun q _ h => hFc q h) hFc (fun u t H locs ht hvm hw hB hz1 hk1 hS => ?_)
  refine W.widen (k := 1) (n := 23) (Nat.le_of_ble_eq_true rfl) (Nat.le_of_ble_eq_true rfl) ?_
  obtain ⟨f_41, hP1, hK1, hD1⟩ := hB
  rw [ht] at hP1
  have hK1 := va_K.moved hvm.symm hK1
  obtain ⟨hP, hD⟩ := va_join (wr := []) (w1 := [(q_37, .inl (cA_38, sL i, .inl f_41))]) hP hD [0] [] rfl rfl (by decide) (by decide) hk1 hFc hP1 hD1
  have hK := (hK.sub (tys' := []) [] rfl).app hK1
  have hP : va_P (dC, dI) vwCl [(q_37, .inl (cA_38, sL i, .inl f_41))] H := hP
  have hD : va_D A [(q_37, .inl (cA_38, sL i, .inl f_41))] := hD
  have hK : va_K (dC, dI) vwCl [(cA_38, .char)] s := hK
  refine lv_aload_n hx hb dJ1_toChars_9d188_14 rfl (lv_at hl 0 rfl) ?_
  have hP9 := hP.sub (ws' := [(q_37, .inl (cA_38, sL i, .inl f_41))]) [0] rfl
  have hD9 := hD.sub (ws' := [(q_37, .inl (cA_38, sL i, .inl f_41))]) [0] (by decide) rfl
  have hK9 := hK.sub (tys' := [(cA_38, .char)]) [0] rfl
  exact W.aret (v := .ref q_37) hx hb hr (by first | exact Or.inl ⟨_, rfl⟩ | exact Or.inr ⟨_, rfl⟩) (Or.inr ⟨_, rfl⟩) (fun t ht hW => ⟨⟨(), q_37, rfl, trivial, ⟨q_37, cA_38, f_41, rfl, by rw [ht]; exact hP9, va_K.moved hW.alike hK9, hD9⟩⟩, hS.F ht⟩) hS.2.2 dJ1_toChars_9d188_15
def wo_j_toCharArray : List Cond := [.methodLink RJ0 492 yJ0_isLatin1_aae02, .instanceMethod yJ0_isLatin1_aae02, .selects RJ0 yJ0_isLatin1_aae02 yJ0_isLatin1_aae02, .initialized RJ0, .fieldLink RJ0 9 "java/lang/String" "value" "[B", .methodLink RJ0 299 yJ1_toChars_9d188, .static yJ1_toChars_9d188, .initialized RJ1]
def wm_j_toCharArray : List Cond := .code yJ0_toCharArray_70df3 cJ0_toCharArray_70df3 1 (some (.array .char)) :: (wo_j_toCharArray ++ (wm_j_isLatin1 ++ (wm_j_toChars ++ ([] : List Cond))))
theorem gd_j_toCharArray : ∀ w ∈ wm_j_toCharArray, goodWord w = true := gd_c rfl (gd_a (by decide) (gd_a gd_j_isLatin1 (gd_a gd_j_toChars gd_nil)))
set_option maxRecDepth 20000 in
theorem im_j_toCharArray : ∀ w ∈ wm_j_toCharArray, w ∈ lw_tbl := im_c (in_r [.code yJ0_toCharArray_70df3 cJ0_toCharArray_70df3 1 (some (.array .char))] [206] (by decide +kernel)) (in_app (in_r wo_j_toCharArray [207, 208, 209, 74, 1758, 213, 214, 75] (by decide +kernel)) (in_app im_j_isLatin1 (in_app im_j_toChars im_nil)))
set_option maxHeartbeats 4000000 in
set_option maxRecDepth 100000 in
theorem j_toCharArray (l : Launch) (dC : Nat → ClassId) (dI : Nat → Nat → Nat) (ad av : Nat → Nat) (sz : Nat) (i : Nat) (hi : i < 9) : Met l yJ0_toCharArray_70df3 wm_j_toCharArray ({ frames := 4, cells := 1, slots := 23, locals := 120 }) (pr_ ad av (dC, dI) sz [.ref (ad i)] [] []) (va_Qr (fun (_ : Unit) => True) (fun (_ : Unit) (a : Nat) (t : State) => (∃ (q1 : Nat), ∃ (k1 : ClassId), ∃ (f1 : Nat → Int32), a = q1 ∧ po_ (dC, dI) (va_A [] sz) [(q1, .inl (k1, sL i, .inl f1))] [(k1, .char)] t)) (va_A [] sz)) 1 23 (va_A [] sz) := by
  refine Met.ofW (cc := cJ0_toCharArray_70df3) (maxL := 1) (ret := (some (.array .char))) (by decide) rfl ?_
  intro p e s m args below meth c s₁ B hml hv
  obtain ⟨rfl, hsz, hP, hK, hD0, hM⟩ := hv
  have hx := B.exec
  have hb := B.bytes
  have hr := B.returns
  have hts := atoms_spec (ws := wm_j_toCharArray) B.pre
  have hown : s.vm.findClass RJ0 = some m.cls := findClass_of_methodNamed B.named
  have hlocks := B.notSynchronized
  subst hsz
  have hD := hD0.self (sz := s.heap.size)
  generalize hAe : va_A [] s.heap.size = A at hD hM ⊢
  have hA : ∀ q : Nat, s.heap.size ≤ q → A q := fun q h => by rw [← hAe]; exact Or.inr h
  have hS : va_S A s.heap s.heap [] := va_S.rf
  have hP : va_P (dC, dI) vwCl [] s.heap := hP
  have hl := lv_entry ([.ref (ad i)]) (n := 1) (Nat.le_of_ble_eq_true rfl)
  rw [lg_entry_eq]
  generalize (lg_sl ([.ref (ad i)]) ++ List.replicate (1 - (lg_sl ([.ref (ad i)])).length) Slot.unset).toArray = ls at hl ⊢
  have hl : lv_has ls 1 [(0, .ref (ad i))] := hl
  have hStr := st_at hM i hi
  have hsL := sL_le i
  obtain ⟨fS, hT⟩ := hStr.2.2.2
  refine lv_aload_n hx hb dJ0_toCharArray_70df3_0 rfl (lv_at hl 0 rfl) ?_
  have hPc := hP.sub (ws' := []) [] rfl
  have hDc := hD.sub (ws' := []) [] (by decide) rfl
  have hKc := hK.sub (tys' := []) [] rfl
  have hFc := va_free (wc := []) hD hS hA [] rfl
  refine va_calli (va_runV (As := []) (rest := []) ⟨hx, hb, hml, hown, hts⟩ (j_isLatin1 l dC dI ad av s.heap.size i (by omega)) (cwV 0 hts (gi_4 (List.mem_cons_of_mem _ (List.mem_append_left _ (List.mem_of_getElem? (i := 0) rfl))) (List.mem_cons_of_mem _ (List.mem_append_left _ (List.mem_of_getElem? (i := 1) rfl))) (List.mem_cons_of_mem _ (List.mem_append_left _ (List.mem_of_getElem? (i := 2) rfl))) (List.mem_cons_of_mem _ (List.mem_append_left _ (List.mem_of_getElem? (i := 3) rfl))) (fun _ hh => (List.mem_cons_of_mem _ (List.mem_append_right _ (List.mem_append_left _ hh)))) gd_j_isLatin1) rfl rfl rfl (by decide +kernel) ⟨Nat.le_of_ble_eq_true rfl, Nat.le_of_ble_eq_true rfl⟩) ⟨pr_blind, st_recv hStr hS, pr_use hPc hKc hDc hFc hS hM⟩ rfl rfl hl.1 rfl (lv_room (Nat.le_of_ble_eq_true rfl)) dJ0_toCharArray_70df3_1 ⟨Nat.le_of_ble_eq_true rfl, Nat.le_of_ble_eq_true rfl⟩) hS (fun q _ h => hFc q h) hFc (fun r_43 u t H locs ht hvm hw hB hz1 hk1 hS => ?_)
  refine W.widen (k := 0) (n := 0) (Nat.le_of_ble_eq_true rfl) (Nat.le_of_ble_eq_true rfl) ?_
  subst hw
  obtain ⟨hre_44, hP1, hK1, hD1⟩ := hB
  refine lq_top (v := 1) hre_44 ?_
  rw [ht] at hP1
  have hK1 := va_K.moved hvm.symm hK1
  obtain ⟨hP, hD⟩ := va_join (wr := []) (w1 := []) hP hD [] [] rfl rfl (by decide) (by decide) hk1 hFc hP1 hD1
  have hK := (hK.sub (tys' := []) [] rfl).app hK1
  have hP : va_P (dC, dI) vwCl [] H := hP
  have hD : va_D A [] := hD
  have hK : va_K (dC, dI) vwCl [] s := hK
  refine lv_if_eq (tgt := 17) hx hb dJ0_toCharArray_70df3_4 (by decide) (fun c_45 => absurd c_45 (by decide)) (fun c_45 => ?_)
  refine lv_aload_n hx hb dJ0_toCharArray_70df3_7 rfl (lv_at hl 0 rfl) ?_
  refine vk_getf hx hb hStr.2.2.1 hS hown (hts (.fieldLink RJ0 9 "java/lang/String" "value" "[B") (List.mem_cons_of_mem _ (List.mem_append_left _ (List.mem_of_getElem? (i := 4) rfl)))) (fun _ h9 => h9) dJ0_toCharArray_70df3_8 ?_
  have hPc := hP.sub (ws' := []) [] rfl
  have hDc := hD.sub (ws' := []) [] (by decide) rfl
  have hKc := hK.sub (tys' := []) [] rfl
  have hFc := va_free (wc := []) hD hS hA [] rfl
  refine va_callr (va_runS (As := [.ref (av i)]) (rest := []) ⟨hx, hb, hml, hown, hts⟩ (j_toChars l dC dI ad av H.size i (by omega)) (va_cwS 1 hts (gi_3 (List.mem_cons_of_mem _ (List.mem_append_left _ (List.mem_of_getElem? (i := 5) rfl))) (List.mem_cons_of_mem _ (List.mem_append_left _ (List.mem_of_getElem? (i := 6) rfl))) (List.mem_cons_of_mem _ (List.mem_append_left _ (List.mem_of_getElem? (i := 7) rfl))) (fun _ hh => (List.mem_cons_of_mem _ (List.mem_append_right _ (List.mem_append_right _ (List.mem_append_left _ hh))))) gd_j_toChars) rfl rfl rfl (by decide +kernel) ⟨Nat.le_of_ble_eq_true rfl, Nat.le_of_ble_eq_true rfl⟩) ⟨pr_blind, pr_use hPc hKc hDc hFc hS hM⟩ rfl rfl hl.1 rfl (lv_room (Nat.le_of_ble_eq_true rfl)) dJ0_toCharArray_70df3_11 ⟨Nat.le_of_ble_eq_true rfl, Nat.le_of_ble_eq_true rfl⟩) hS (fun q _ h => hFc q h) hFc (fun u r_46 t H locs ht hvm hw hB hz1 hk1 hS => ?_)
  refine W.widen (k := 1) (n := 23) (Nat.le_of_ble_eq_true rfl) (Nat.le_of_ble_eq_true rfl) ?_
  obtain ⟨q_47, k_48, f_49, hre_50, hP1, hK1, hD1⟩ := hB
  rw [hre_50]
  rw [ht] at hP1
  have hK1 := va_K.moved hvm.symm hK1
  obtain ⟨hP, hD⟩ := va_join (wr := []) (w1 := [(q_47, .inl (k_48, sL i, .inl f_49))]) hP hD [] [] rfl rfl (by decide) (by decide) hk1 hFc hP1 hD1
  have hK := (hK.sub (tys' := []) [] rfl).app hK1
  have hP : va_P (dC, dI) vwCl [(q_47, .inl (k_48, sL i, .inl f_49))] H := hP
  have hD : va_D A [(q_47, .inl (k_48, sL i, .inl f_49))] := hD
  have hK : va_K (dC, dI) vwCl [(k_48, .char)] s := hK
  refine lv_goto (tgt := 24) hx hb dJ0_toCharArray_70df3_14 (by decide) ?_
  have hP9 := hP.sub (ws' := [(q_47, .inl (k_48, sL i, .inl f_49))]) [0] rfl
  have hD9 := hD.sub (ws' := [(q_47, .inl (k_48, sL i, .inl f_49))]) [0] (by decide) rfl
  have hK9 := hK.sub (tys' := [(k_48, .char)]) [0] rfl
  exact W.aret (v := .ref q_47) hx hb hr (by first | exact Or.inl ⟨_, rfl⟩ | exact Or.inr ⟨_, rfl⟩) (Or.inr ⟨_, rfl⟩) (fun t ht hW => ⟨⟨(), q_47, rfl, trivial, ⟨q_47, k_48, f_49, rfl, by rw [ht]; exact hP9, va_K.moved hW.alike hK9, hD9⟩⟩, hS.F ht⟩) hS.2.2 dJ0_toCharArray_70df3_24
def wo_j_copyOf : List Cond := [.arrayClass .int, .methodLink RJ7 304 Lib.Math.min.name, .static Lib.Math.min.name, .initialized "java/lang/Math", .code Lib.Math.min.name Lib.Math.min.code 2 (some .int), .methodLink RJ7 150 arraycopyName, .native arraycopyName, .static arraycopyName, .initialized "java/lang/System", .methodLink RJ7 316 ⟨"[I", "clone", "()Ljava/lang/Object;"⟩, .sameMethod "[I" "java/lang/Object" "clone" "()Ljava/lang/Object;", .native ⟨"java/lang/Object", "clone", "()Ljava/lang/Object;"⟩, .instanceMethod ⟨"java/lang/Object", "clone", "()Ljava/lang/Object;"⟩, .selects "[I" ⟨"[I", "clone", "()Ljava/lang/Object;"⟩ ⟨"java/lang/Object", "clone", "()Ljava/lang/Object;"⟩, .classLink RJ7 317 "[I"]
def wm_j_copyOf : List Cond := .code yJ7_copyOf_59c91 cJ7_copyOf_59c91 3 (some (.array .int)) :: (wo_j_copyOf ++ ([] : List Cond))
theorem gd_j_copyOf : ∀ w ∈ wm_j_copyOf, goodWord w = true := gd_c rfl (gd_a (by decide) gd_nil)
set_option maxRecDepth 20000 in
theorem im_j_copyOf : ∀ w ∈ wm_j_copyOf, w ∈ lw_tbl := im_c (in_r [.code yJ7_copyOf_59c91 cJ7_copyOf_59c91 3 (some (.array .int))] [367] (by decide +kernel)) (in_app (in_r wo_j_copyOf [155, 375, 260, 78, 261, 376, 378, 377, 82, 368, 369, 370, 371, 372, 374] (by decide +kernel)) im_nil)
set_option maxHeartbeats 4000000 in
set_option maxRecDepth 100000 in
theorem j_copyOf (l : Launch) (dC : Nat → ClassId) (dI : Nat → Nat → Nat) (ad av : Nat → Nat) (sz : Nat) (q0 : Nat) (cl : Nat) (k0 : ClassId) (f0 : Nat → Int32) (hc : cl ≤ 60) : Met l yJ7_copyOf_59c91 wm_j_copyOf ({ frames := 3, cells := 1, slots := 60, locals := 100 }) (pr_ ad av (dC, dI) sz [.ref q0, .int (nI cl)] [(q0, .inl (k0, 60, .inl f0))] [(k0, .int)]) (va_Qr (fun (_ : Unit) => True) (fun (_ : Unit) (a : Nat) (t : State) => (∃ (q1 : Nat), ∃ (nn : Nat), ∃ (k1 : ClassId), ∃ (f1 : Nat → Int32), a = q1 ∧ po_ (dC, dI) (va_A [(q0, .inl (k0, 60, .inl f0))] sz) [(q0, .inl (k0, 60, .inl f0)), (q1, .inl (k1, nn, .inl f1))] [(k0, .int), (k1, .int)] t)) (va_A [(q0, .inl (k0, 60, .inl f0))] sz)) 1 60 (va_A [(q0, .inl (k0, 60, .inl f0))] sz) := by
  refine Met.ofW (cc := cJ7_copyOf_59c91) (maxL := 3) (ret := (some (.array .int))) (by decide) rfl ?_
  intro p e s m args below meth c s₁ B hml hv
  obtain ⟨rfl, hsz, hP, hK, hD0, hM⟩ := hv
  have hx := B.exec
  have hb := B.bytes
  have hr := B.returns
  have hts := atoms_spec (ws := wm_j_copyOf) B.pre
  have hown : s.vm.findClass RJ7 = some m.cls := findClass_of_methodNamed B.named
  have hlocks := B.notSynchronized
  subst hsz
  have hD := hD0.self (sz := s.heap.size)
  generalize hAe : va_A [(q0, .inl (k0, 60, .inl f0))] s.heap.size = A at hD hM ⊢
  have hA : ∀ q : Nat, s.heap.size ≤ q → A q := fun q h => by rw [← hAe]; exact Or.inr h
  have hS : va_S A s.heap s.heap [] := va_S.rf
  have hP : va_P (dC, dI) vwCl [(q0, .inl (k0, 60, .inl f0))] s.heap := hP
  have hl := lv_entry ([.ref q0, .int (nI cl)]) (n := 3) (Nat.le_of_ble_eq_true rfl)
  rw [lg_entry_eq]
  generalize (lg_sl ([.ref q0, .int (nI cl)]) ++ List.replicate (3 - (lg_sl ([.ref q0, .int (nI cl)])).length) Slot.unset).toArray = ls at hl ⊢
  have hl : lv_has ls 3 [(0, .ref q0), (1, .int (nI cl))] := hl
  refine lv_iload_n hx hb dJ7_copyOf_59c91_0 rfl (lv_at hl 1 rfl) ?_
  refine lv_aload_n hx hb dJ7_copyOf_59c91_1 rfl (lv_at hl 0 rfl) ?_
  refine va_alen (v := 60) hx hb hK hP 0 0 rfl rfl rfl dJ7_copyOf_59c91_2 ?_
  refine lv_icmp_ne (tgt := 14) hx hb dJ7_copyOf_59c91_3 (by decide) (fun c_51 => ?_) (fun c_51 => ?_)
  · have hn_c_51 := q_ne cl 60 c_51 rfl rfl (by omega) (by omega)
    refine lv_iload_n hx hb dJ7_copyOf_59c91_14 rfl (lv_at hl 1 rfl) ?_
    refine va_newa (atype := .int) hx hb (hts (.arrayClass .int) (List.mem_cons_of_mem _ (List.mem_append_left _ (List.mem_of_getElem? (i := 0) rfl)))) (ty := .int) rfl hK hP hD hS hA (N' := cl) (a0 := (cl, .inl (fun _ => 0))) (fun _ => rfl) (nI_pos (by omega)) (nI_clamp (by omega)) (by show cl * _ ≤ _; simp only [componentBytes]; omega) (Nat.le_of_ble_eq_true rfl) (by show 0 + cl ≤ 60; omega) dJ7_copyOf_59c91_15 (fun q_52 cA_53 H hK hP hD hS => ?_)
    refine W.widen (k := 1) (n := 60) (Nat.le_of_ble_eq_true rfl) (by omega) ?_
    have hP : va_P (dC, dI) vwCl [(q0, .inl (k0, 60, .inl f0)), (q_52, .inl (cA_53, cl, .inl (fun _ => 0)))] H := hP
    have hD : va_D A [(q0, .inl (k0, 60, .inl f0)), (q_52, .inl (cA_53, cl, .inl (fun _ => 0)))] := hD
    have hK : va_K (dC, dI) vwCl [(k0, .int), (cA_53, .int)] s := hK
    refine lv_astore_n (lv' := [(2, .ref q_52), (0, .ref q0), (1, .int (nI cl))]) hx hb dJ7_copyOf_59c91_17 rfl hl (by decide) rfl (fun ls hl => ?_)
    refine lv_aload_n hx hb dJ7_copyOf_59c91_18 rfl (lv_at hl 1 rfl) ?_
    refine lv_iconst (v := 0) hx hb dJ7_copyOf_59c91_19 (by decide) ?_
    refine lv_aload_n hx hb dJ7_copyOf_59c91_20 rfl (lv_at hl 0 rfl) ?_
    refine lv_iconst (v := 0) hx hb dJ7_copyOf_59c91_21 (by decide) ?_
    refine lv_aload_n hx hb dJ7_copyOf_59c91_22 rfl (lv_at hl 1 rfl) ?_
    refine va_alen (v := 60) hx hb hK hP 0 0 rfl rfl rfl dJ7_copyOf_59c91_23 ?_
    refine lv_iload_n hx hb dJ7_copyOf_59c91_24 rfl (lv_at hl 2 rfl) ?_
    refine va_mmin hx hb (by rw [hml]; exact hl.1.symm) hown (hts (.methodLink RJ7 304 Lib.Math.min.name) (List.mem_cons_of_mem _ (List.mem_append_left _ (List.mem_of_getElem? (i := 1) rfl)))) (hts (.static Lib.Math.min.name) (List.mem_cons_of_mem _ (List.mem_append_left _ (List.mem_of_getElem? (i := 2) rfl)))) (hts (.initialized "java/lang/Math") (List.mem_cons_of_mem _ (List.mem_append_left _ (List.mem_of_getElem? (i := 3) rfl)))) (hts (.code Lib.Math.min.name Lib.Math.min.code 2 (some .int)) (List.mem_cons_of_mem _ (List.mem_append_left _ (List.mem_of_getElem? (i := 4) rfl)))) (Nat.le_of_ble_eq_true rfl) (Nat.le_of_ble_eq_true rfl) (Nat.le_of_ble_eq_true rfl) (Nat.le_of_ble_eq_true rfl) dJ7_copyOf_59c91_25 ?_
    refine lq_top (v := nI cl) (q_min 60 cl rfl rfl (by omega) (by omega) (by omega)) ?_
    refine va_copyi (ty := .int) hx hb (by rw [hml]; exact hl.1.symm) hown (hts (.methodLink RJ7 150 arraycopyName) (List.mem_cons_of_mem _ (List.mem_append_left _ (List.mem_of_getElem? (i := 5) rfl)))) (hts (.native arraycopyName) (List.mem_cons_of_mem _ (List.mem_append_left _ (List.mem_of_getElem? (i := 6) rfl)))) (hts (.static arraycopyName) (List.mem_cons_of_mem _ (List.mem_append_left _ (List.mem_of_getElem? (i := 7) rfl)))) (hts (.initialized "java/lang/System") (List.mem_cons_of_mem _ (List.mem_append_left _ (List.mem_of_getElem? (i := 8) rfl)))) hK hP hD hS 0 1 0 1 rfl rfl rfl rfl rfl (by decide) (by decide) (nI_pos (by omega)) (by rw [sb_cl0, nI_clamp (by omega)]; omega) (by rw [sb_cl0, nI_clamp (by omega)]; omega) (fun i hi => rfl) (Nat.le_of_ble_eq_true rfl) (Nat.le_of_ble_eq_true rfl) dJ7_copyOf_59c91_28 (fun H locs hP hD hS => ?_)
    obtain ⟨f_54, ef_54⟩ : ∃ y : Nat → Int32, y = va_cpy f0 (fun _ => 0) (0 : Int32).toNatClampNeg (0 : Int32).toNatClampNeg (nI cl).toNatClampNeg := ⟨_, rfl⟩
    have hP : va_P (dC, dI) vwCl [(q0, .inl (k0, 60, .inl f0)), (q_52, .inl (cA_53, cl, .inl f_54))] H := by rw [ef_54]; exact hP
    have hD : va_D A [(q0, .inl (k0, 60, .inl f0)), (q_52, .inl (cA_53, cl, .inl f_54))] := by rw [ef_54]; exact hD
    refine lv_aload_n hx hb dJ7_copyOf_59c91_31 rfl (lv_at hl 0 rfl) ?_
    have hP9 := hP.sub (ws' := [(q0, .inl (k0, 60, .inl f0)), (q_52, .inl (cA_53, cl, .inl f_54))]) [0, 1] rfl
    have hD9 := hD.sub (ws' := [(q0, .inl (k0, 60, .inl f0)), (q_52, .inl (cA_53, cl, .inl f_54))]) [0, 1] (by decide) rfl
    have hK9 := hK.sub (tys' := [(k0, .int), (cA_53, .int)]) [0, 1] rfl
    exact W.aret (v := .ref q_52) hx hb hr (by first | exact Or.inl ⟨_, rfl⟩ | exact Or.inr ⟨_, rfl⟩) (Or.inr ⟨_, rfl⟩) (fun t ht hW => ⟨⟨(), q_52, rfl, trivial, ⟨q_52, cl, cA_53, f_54, rfl, by rw [ht]; exact hP9, va_K.moved hW.alike hK9, hD9⟩⟩, hS.F ht⟩) hS.2.2 dJ7_copyOf_59c91_32
  · have hn_c_51 := q_eq cl 60 c_51 rfl rfl (by omega) (by omega)
    refine lv_aload_n hx hb dJ7_copyOf_59c91_6 rfl (lv_at hl 0 rfl) ?_
    refine va_clone (ty := .int) hx hb (by rw [hml]; exact hl.1.symm) hown (hts (.methodLink RJ7 316 ⟨"[I", "clone", "()Ljava/lang/Object;"⟩) (List.mem_cons_of_mem _ (List.mem_append_left _ (List.mem_of_getElem? (i := 9) rfl)))) (hts (.sameMethod "[I" "java/lang/Object" "clone" "()Ljava/lang/Object;") (List.mem_cons_of_mem _ (List.mem_append_left _ (List.mem_of_getElem? (i := 10) rfl)))) (hts (.native ⟨"java/lang/Object", "clone", "()Ljava/lang/Object;"⟩) (List.mem_cons_of_mem _ (List.mem_append_left _ (List.mem_of_getElem? (i := 11) rfl)))) (hts (.instanceMethod ⟨"java/lang/Object", "clone", "()Ljava/lang/Object;"⟩) (List.mem_cons_of_mem _ (List.mem_append_left _ (List.mem_of_getElem? (i := 12) rfl)))) (hts (.selects "[I" ⟨"[I", "clone", "()Ljava/lang/Object;"⟩ ⟨"java/lang/Object", "clone", "()Ljava/lang/Object;"⟩) (List.mem_cons_of_mem _ (List.mem_append_left _ (List.mem_of_getElem? (i := 13) rfl)))) hM.2.2.2.2.2.2.2.1 hK hP hD hS hA 0 0 rfl rfl (va_nm_int (hK.2 0 _ rfl).2) (va_fit (F := fun j => .int (f0 j)) (fun _ _ => rfl)) (Nat.le_of_ble_eq_true rfl) (Nat.le_of_ble_eq_true rfl) (Nat.le_of_ble_eq_true rfl) (Nat.le_of_ble_eq_true rfl) dJ7_copyOf_59c91_7 (fun q_55 H hK hP hD hS => ?_)
    refine W.widen (k := 1) (n := 60) (Nat.le_of_ble_eq_true rfl) (Nat.le_of_ble_eq_true rfl) ?_
    have hP : va_P (dC, dI) vwCl [(q0, .inl (k0, 60, .inl f0)), (q_55, .inl (k0, 60, .inl f0))] H := hP
    have hD : va_D A [(q0, .inl (k0, 60, .inl f0)), (q_55, .inl (k0, 60, .inl f0))] := hD
    have hK : va_K (dC, dI) vwCl [(k0, .int)] s := hK.sub [0] rfl
    refine va_castA hx hb hown (hts (.classLink RJ7 317 "[I") (List.mem_cons_of_mem _ (List.mem_append_left _ (List.mem_of_getElem? (i := 14) rfl)))) hP 1 rfl (va_nm_int (hK.2 0 _ rfl).2) dJ7_copyOf_59c91_10 ?_
    have hP9 := hP.sub (ws' := [(q0, .inl (k0, 60, .inl f0)), (q_55, .inl (k0, 60, .inl f0))]) [0, 1] rfl
    have hD9 := hD.sub (ws' := [(q0, .inl (k0, 60, .inl f0)), (q_55, .inl (k0, 60, .inl f0))]) [0, 1] (by decide) rfl
    have hK9 := hK.sub (tys' := [(k0, .int), (k0, .int)]) [0, 0] rfl
    exact W.aret (v := .ref q_55) hx hb hr (by first | exact Or.inl ⟨_, rfl⟩ | exact Or.inr ⟨_, rfl⟩) (Or.inr ⟨_, rfl⟩) (fun t ht hW => ⟨⟨(), q_55, rfl, trivial, ⟨q_55, 60, k0, f0, rfl, by rw [ht]; exact hP9, va_K.moved hW.alike hK9, hD9⟩⟩, hS.F ht⟩) hS.2.2 dJ7_copyOf_59c91_13
